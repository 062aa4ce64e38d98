/-! the law: one call -/
section P_59_law
theorem i_152_0 : ins 152 0 = some (.aload_n 0, 1, 0, 0, 0, 0) := rfl
theorem i_152_1 : ins 152 1 = some (.iload_n 1, 2, 1, 0, 0, 0) := rfl
theorem i_152_2 : ins 152 2 = some (.iload_n 2, 3, 2, 0, 0, 0) := rfl
theorem i_152_3 : ins 152 3 = some (.iload_n 3, 4, 3, 0, 0, 0) := rfl
theorem i_152_4 : ins 152 4 = some (.iload 4, 6, 4, 0, 0, 0) := rfl
theorem i_152_6 : ins 152 6 = some (.iload 5, 8, 5, 0, 0, 0) := rfl
theorem i_152_8 : ins 152 8 = some (.iload 6, 10, 6, 0, 0, 0) := rfl
theorem i_152_10 : ins 152 10 = some (.invokevirtual 7, 13, 65, 0, 7, 0) := rfl
theorem S152_0 {Q : Ou → Prop} {M : Mem} {κ : Kp} (hκ : Rd κ)  {p0 : Int32} {p1 : Int32} {p2 : Int32} {p3 : Int32} {p4 : Int32} {p5 : Int32}
    (k1 : RT 65 (0, entL 65 [.ref 0, .int p0, .int p1, .int p2, .int p3, .int p4, .int p5], [], M, κ) (fun o => (∃ v M1 κ1, o = (.inl v, M1, κ1) ∧ RT 152 (13, [.ref 0, .int p0, .int p1, .int p2, .int p3, .int p4, .int p5, UU], v.toList ++ [], M1, κ1) Q) ∨ ∃ f M1 κ1 w n hp, o = (.inr f, M1, κ1) ∧ (152, f, w, n, hp) ∈ hdL ∧ Q (.inl (some (.int w)), M1, κ1)))
    : RT 152 (0, [.ref 0, .int p0, .int p1, .int p2, .int p3, .int p4, .int p5, UU], [], M, κ) Q := by
  refine w_load i_152_0 rfl rfl ?_
  refine w_load i_152_1 rfl rfl ?_
  refine w_load i_152_2 rfl rfl ?_
  refine w_load i_152_3 rfl rfl ?_
  refine w_load i_152_4 rfl rfl ?_
  refine w_load i_152_6 rfl rfl ?_
  refine w_load i_152_8 rfl rfl ?_
  exact w_callVC (i := _) i_152_10 ⟨by decide, by decide, by decide, rfl⟩ ⟨rfl, by decide⟩ hκ (⟨rfl, by decide⟩ : isOb 0 6) (av := [.int p0, .int p1, .int p2, .int p3, .int p4, .int p5]) (rest := []) rfl rfl (Nat.le_of_ble_eq_true rfl) (k1)
theorem i_152_13 : ins 152 13 = some (.goto 7, 16, 20, 0, 0, 0) := rfl
theorem i_152_20 : ins 152 20 = some (.iconst 0, 21, 0, 0, 0, 0) := rfl
theorem i_152_21 : ins 152 21 = some (.ireturn, 22, 0, 0, 0, 0) := rfl
theorem S152_13 {Q : Ou → Prop} {M : Mem} {κ : Kp} (hκ : Rd κ)  {p0 : Int32} {p1 : Int32} {p2 : Int32} {p3 : Int32} {p4 : Int32} {p5 : Int32}
    (k1 : Q (.inl (some (.int 0)), M, κ))
    : RT 152 (13, [.ref 0, .int p0, .int p1, .int p2, .int p3, .int p4, .int p5, UU], [], M, κ) Q := by
  refine w_goto i_152_13 ?_
  refine w_push i_152_20 rfl ?_
  exact w_iret i_152_21 (.inl rfl) (k1)
theorem i_153_0 : ins 153 0 = some (.aload 5, 2, 5, 0, 0, 0) := rfl
theorem i_153_2 : ins 153 2 = some (.iconst 0, 3, 0, 0, 0, 0) := rfl
theorem i_153_3 : ins 153 3 = some (.aload_n 0, 4, 0, 0, 0, 0) := rfl
theorem i_153_4 : ins 153 4 = some (.iload_n 1, 5, 1, 0, 0, 0) := rfl
theorem i_153_5 : ins 153 5 = some (.iload_n 2, 6, 2, 0, 0, 0) := rfl
theorem i_153_6 : ins 153 6 = some (.iload_n 3, 7, 3, 0, 0, 0) := rfl
theorem i_153_7 : ins 153 7 = some (.iload 4, 9, 4, 0, 0, 0) := rfl
theorem i_153_9 : ins 153 9 = some (.invokevirtual 15, 12, 66, 0, 5, 0) := rfl
theorem S153_0 {Q : Ou → Prop} {M : Mem} {κ : Kp} (hκ : Rd κ)  {p0 : Int32} {p1 : Int32} {p2 : Int32} {p3 : Int32}
    (k1 : RT 66 (0, entL 66 [.ref 0, .int p0, .int p1, .int p2, .int p3], [], M, κ) (fun o => (∃ v M1 κ1, o = (.inl v, M1, κ1) ∧ RT 153 (12, [.ref 0, .int p0, .int p1, .int p2, .int p3, .ref 178, UU], v.toList ++ [.int 0, .ref 178], M1, κ1) Q) ∨ ∃ f M1 κ1 w n hp, o = (.inr f, M1, κ1) ∧ (153, f, w, n, hp) ∈ hdL ∧ Q (.inl (some (.int w)), M1, κ1)))
    : RT 153 (0, [.ref 0, .int p0, .int p1, .int p2, .int p3, .ref 178, UU], [], M, κ) Q := by
  refine w_load i_153_0 rfl rfl ?_
  refine w_push i_153_2 rfl ?_
  refine w_load i_153_3 rfl rfl ?_
  refine w_load i_153_4 rfl rfl ?_
  refine w_load i_153_5 rfl rfl ?_
  refine w_load i_153_6 rfl rfl ?_
  refine w_load i_153_7 rfl rfl ?_
  exact w_callVC (i := _) i_153_9 ⟨by decide, by decide, by decide, rfl⟩ ⟨rfl, by decide⟩ hκ (⟨rfl, by decide⟩ : isOb 0 6) (av := [.int p0, .int p1, .int p2, .int p3]) (rest := [.int 0, .ref 178]) rfl rfl (Nat.le_of_ble_eq_true rfl) (k1)
theorem i_153_12 : ins 153 12 = some (.i2l, 13, 0, 0, 0, 0) := rfl
theorem i_153_13 : ins 153 13 = some (.lastore, 14, 0, 0, 0, 0) := rfl
theorem i_153_14 : ins 153 14 = some (.goto 11, 17, 25, 0, 0, 0) := rfl
theorem i_153_25 : ins 153 25 = some (.iconst 0, 26, 0, 0, 0, 0) := rfl
theorem i_153_26 : ins 153 26 = some (.ireturn, 27, 0, 0, 0, 0) := rfl
theorem S153_12 {Q : Ou → Prop} {M : Mem} {κ : Kp} (hκ : Rd κ)  {p0 : Int32} {p1 : Int32} {p2 : Int32} {p3 : Int32} {an : Int32}
    (k1 : Q (.inl (some (.int 0)), M, (κ.1, stX (kX κ) 178 an.toInt64.toUInt64, κ.2.2)))
    : RT 153 (12, [.ref 0, .int p0, .int p1, .int p2, .int p3, .ref 178, UU], [.int an, .int 0, .ref 178], M, κ) Q := by
  refine w_i2l i_153_12 ?_
  refine w_last i_153_13 hκ (⟨rfl, by decide⟩ : kd 178 = 24 ∧ 178 < 180) (vp_in_nI (n := 0) (by decide) (by decide)) ?_
  refine w_goto i_153_14 ?_
  refine w_push i_153_25 rfl ?_
  exact w_iret i_153_26 (.inl rfl) (k1)
theorem i_154_0 : ins 154 0 = some (.aload 7, 2, 7, 0, 0, 0) := rfl
theorem i_154_2 : ins 154 2 = some (.iconst 0, 3, 0, 0, 0, 0) := rfl
theorem i_154_3 : ins 154 3 = some (.aload_n 0, 4, 0, 0, 0, 0) := rfl
theorem i_154_4 : ins 154 4 = some (.iload_n 1, 5, 1, 0, 0, 0) := rfl
theorem i_154_5 : ins 154 5 = some (.iload_n 2, 6, 2, 0, 0, 0) := rfl
theorem i_154_6 : ins 154 6 = some (.iload_n 3, 7, 3, 0, 0, 0) := rfl
theorem i_154_7 : ins 154 7 = some (.iload 4, 9, 4, 0, 0, 0) := rfl
theorem i_154_9 : ins 154 9 = some (.iload 5, 11, 5, 0, 0, 0) := rfl
theorem i_154_11 : ins 154 11 = some (.iload 6, 13, 6, 0, 0, 0) := rfl
theorem i_154_13 : ins 154 13 = some (.invokevirtual 21, 16, 67, 0, 7, 0) := rfl
theorem S154_0 {Q : Ou → Prop} {M : Mem} {κ : Kp} (hκ : Rd κ)  {p0 : Int32} {p1 : Int32} {p2 : Int32} {p3 : Int32} {p4 : Int32} {p5 : Int32}
    (k1 : RT 67 (0, entL 67 [.ref 0, .int p0, .int p1, .int p2, .int p3, .int p4, .int p5], [], M, κ) (fun o => (∃ v M1 κ1, o = (.inl v, M1, κ1) ∧ RT 154 (16, [.ref 0, .int p0, .int p1, .int p2, .int p3, .int p4, .int p5, .ref 178, UU], v.toList ++ [.int 0, .ref 178], M1, κ1) Q) ∨ ∃ f M1 κ1 w n hp, o = (.inr f, M1, κ1) ∧ (154, f, w, n, hp) ∈ hdL ∧ Q (.inl (some (.int w)), M1, κ1)))
    : RT 154 (0, [.ref 0, .int p0, .int p1, .int p2, .int p3, .int p4, .int p5, .ref 178, UU], [], M, κ) Q := by
  refine w_load i_154_0 rfl rfl ?_
  refine w_push i_154_2 rfl ?_
  refine w_load i_154_3 rfl rfl ?_
  refine w_load i_154_4 rfl rfl ?_
  refine w_load i_154_5 rfl rfl ?_
  refine w_load i_154_6 rfl rfl ?_
  refine w_load i_154_7 rfl rfl ?_
  refine w_load i_154_9 rfl rfl ?_
  refine w_load i_154_11 rfl rfl ?_
  exact w_callVC (i := _) i_154_13 ⟨by decide, by decide, by decide, rfl⟩ ⟨rfl, by decide⟩ hκ (⟨rfl, by decide⟩ : isOb 0 6) (av := [.int p0, .int p1, .int p2, .int p3, .int p4, .int p5]) (rest := [.int 0, .ref 178]) rfl rfl (Nat.le_of_ble_eq_true rfl) (k1)
theorem i_154_16 : ins 154 16 = some (.i2l, 17, 0, 0, 0, 0) := rfl
theorem i_154_17 : ins 154 17 = some (.lastore, 18, 0, 0, 0, 0) := rfl
theorem i_154_18 : ins 154 18 = some (.goto 11, 21, 29, 0, 0, 0) := rfl
theorem i_154_29 : ins 154 29 = some (.iconst 0, 30, 0, 0, 0, 0) := rfl
theorem i_154_30 : ins 154 30 = some (.ireturn, 31, 0, 0, 0, 0) := rfl
theorem S154_16 {Q : Ou → Prop} {M : Mem} {κ : Kp} (hκ : Rd κ)  {p0 : Int32} {p1 : Int32} {p2 : Int32} {p3 : Int32} {p4 : Int32} {p5 : Int32} {an : Int32}
    (k1 : Q (.inl (some (.int 0)), M, (κ.1, stX (kX κ) 178 an.toInt64.toUInt64, κ.2.2)))
    : RT 154 (16, [.ref 0, .int p0, .int p1, .int p2, .int p3, .int p4, .int p5, .ref 178, UU], [.int an, .int 0, .ref 178], M, κ) Q := by
  refine w_i2l i_154_16 ?_
  refine w_last i_154_17 hκ (⟨rfl, by decide⟩ : kd 178 = 24 ∧ 178 < 180) (vp_in_nI (n := 0) (by decide) (by decide)) ?_
  refine w_goto i_154_18 ?_
  refine w_push i_154_29 rfl ?_
  exact w_iret i_154_30 (.inl rfl) (k1)
theorem i_155_0 : ins 155 0 = some (.aload_n 1, 1, 1, 0, 0, 0) := rfl
theorem i_155_1 : ins 155 1 = some (.iconst 0, 2, 0, 0, 0, 0) := rfl
theorem i_155_2 : ins 155 2 = some (.aload_n 0, 3, 0, 0, 0, 0) := rfl
theorem i_155_3 : ins 155 3 = some (.invokevirtual 25, 6, 71, 0, 1, 0) := rfl
theorem S155_0 {Q : Ou → Prop} {M : Mem} {κ : Kp} (hκ : Rd κ)  
    (k1 : RT 71 (0, entL 71 [.ref 0], [], M, κ) (fun o => (∃ v M1 κ1, o = (.inl v, M1, κ1) ∧ RT 155 (6, [.ref 0, .ref 178, UU], v.toList ++ [.int 0, .ref 178], M1, κ1) Q) ∨ ∃ f M1 κ1 w n hp, o = (.inr f, M1, κ1) ∧ (155, f, w, n, hp) ∈ hdL ∧ Q (.inl (some (.int w)), M1, κ1)))
    : RT 155 (0, [.ref 0, .ref 178, UU], [], M, κ) Q := by
  refine w_load i_155_0 rfl rfl ?_
  refine w_push i_155_1 rfl ?_
  refine w_load i_155_2 rfl rfl ?_
  exact w_callVC (i := _) i_155_3 ⟨by decide, by decide, by decide, rfl⟩ ⟨rfl, by decide⟩ hκ (⟨rfl, by decide⟩ : isOb 0 6) (av := []) (rest := [.int 0, .ref 178]) rfl rfl (Nat.le_of_ble_eq_true rfl) (k1)
theorem i_155_6 : ins 155 6 = some (.i2l, 7, 0, 0, 0, 0) := rfl
theorem i_155_7 : ins 155 7 = some (.lastore, 8, 0, 0, 0, 0) := rfl
theorem i_155_8 : ins 155 8 = some (.goto 12, 11, 20, 0, 0, 0) := rfl
theorem i_155_20 : ins 155 20 = some (.iconst 0, 21, 0, 0, 0, 0) := rfl
theorem i_155_21 : ins 155 21 = some (.ireturn, 22, 0, 0, 0, 0) := rfl
theorem S155_6 {Q : Ou → Prop} {M : Mem} {κ : Kp} (hκ : Rd κ)  {an : Int32}
    (k1 : Q (.inl (some (.int 0)), M, (κ.1, stX (kX κ) 178 an.toInt64.toUInt64, κ.2.2)))
    : RT 155 (6, [.ref 0, .ref 178, UU], [.int an, .int 0, .ref 178], M, κ) Q := by
  refine w_i2l i_155_6 ?_
  refine w_last i_155_7 hκ (⟨rfl, by decide⟩ : kd 178 = 24 ∧ 178 < 180) (vp_in_nI (n := 0) (by decide) (by decide)) ?_
  refine w_goto i_155_8 ?_
  refine w_push i_155_20 rfl ?_
  exact w_iret i_155_21 (.inl rfl) (k1)
theorem i_156_0 : ins 156 0 = some (.aload_n 1, 1, 1, 0, 0, 0) := rfl
theorem i_156_1 : ins 156 1 = some (.iconst 0, 2, 0, 0, 0, 0) := rfl
theorem i_156_2 : ins 156 2 = some (.aload_n 0, 3, 0, 0, 0, 0) := rfl
theorem i_156_3 : ins 156 3 = some (.invokevirtual 31, 6, 72, 0, 1, 0) := rfl
theorem S156_0 {Q : Ou → Prop} {M : Mem} {κ : Kp} (hκ : Rd κ)  
    (k1 : RT 72 (0, entL 72 [.ref 0], [], M, κ) (fun o => (∃ v M1 κ1, o = (.inl v, M1, κ1) ∧ RT 156 (6, [.ref 0, .ref 178, UU], v.toList ++ [.int 0, .ref 178], M1, κ1) Q) ∨ ∃ f M1 κ1 w n hp, o = (.inr f, M1, κ1) ∧ (156, f, w, n, hp) ∈ hdL ∧ Q (.inl (some (.int w)), M1, κ1)))
    : RT 156 (0, [.ref 0, .ref 178, UU], [], M, κ) Q := by
  refine w_load i_156_0 rfl rfl ?_
  refine w_push i_156_1 rfl ?_
  refine w_load i_156_2 rfl rfl ?_
  exact w_callVC (i := _) i_156_3 ⟨by decide, by decide, by decide, rfl⟩ ⟨rfl, by decide⟩ hκ (⟨rfl, by decide⟩ : isOb 0 6) (av := []) (rest := [.int 0, .ref 178]) rfl rfl (Nat.le_of_ble_eq_true rfl) (k1)
theorem i_156_6 : ins 156 6 = some (.i2l, 7, 0, 0, 0, 0) := rfl
theorem i_156_7 : ins 156 7 = some (.lastore, 8, 0, 0, 0, 0) := rfl
theorem i_156_8 : ins 156 8 = some (.goto 9, 11, 17, 0, 0, 0) := rfl
theorem i_156_17 : ins 156 17 = some (.iconst 0, 18, 0, 0, 0, 0) := rfl
theorem i_156_18 : ins 156 18 = some (.ireturn, 19, 0, 0, 0, 0) := rfl
theorem S156_6 {Q : Ou → Prop} {M : Mem} {κ : Kp} (hκ : Rd κ)  {an : Int32}
    (k1 : Q (.inl (some (.int 0)), M, (κ.1, stX (kX κ) 178 an.toInt64.toUInt64, κ.2.2)))
    : RT 156 (6, [.ref 0, .ref 178, UU], [.int an, .int 0, .ref 178], M, κ) Q := by
  refine w_i2l i_156_6 ?_
  refine w_last i_156_7 hκ (⟨rfl, by decide⟩ : kd 178 = 24 ∧ 178 < 180) (vp_in_nI (n := 0) (by decide) (by decide)) ?_
  refine w_goto i_156_8 ?_
  refine w_push i_156_17 rfl ?_
  exact w_iret i_156_18 (.inl rfl) (k1)
theorem i_157_0 : ins 157 0 = some (.aload_n 2, 1, 2, 0, 0, 0) := rfl
theorem i_157_1 : ins 157 1 = some (.iconst 0, 2, 0, 0, 0, 0) := rfl
theorem i_157_2 : ins 157 2 = some (.aload_n 0, 3, 0, 0, 0, 0) := rfl
theorem i_157_3 : ins 157 3 = some (.iload_n 1, 4, 1, 0, 0, 0) := rfl
theorem i_157_4 : ins 157 4 = some (.invokevirtual 36, 7, 73, 0, 2, 0) := rfl
theorem S157_0 {Q : Ou → Prop} {M : Mem} {κ : Kp} (hκ : Rd κ)  {p0 : Int32}
    (k1 : RT 73 (0, entL 73 [.ref 0, .int p0], [], M, κ) (fun o => (∃ v M1 κ1, o = (.inl v, M1, κ1) ∧ RT 157 (7, [.ref 0, .int p0, .ref 178, UU], v.toList ++ [.int 0, .ref 178], M1, κ1) Q) ∨ ∃ f M1 κ1 w n hp, o = (.inr f, M1, κ1) ∧ (157, f, w, n, hp) ∈ hdL ∧ Q (.inl (some (.int w)), M1, κ1)))
    : RT 157 (0, [.ref 0, .int p0, .ref 178, UU], [], M, κ) Q := by
  refine w_load i_157_0 rfl rfl ?_
  refine w_push i_157_1 rfl ?_
  refine w_load i_157_2 rfl rfl ?_
  refine w_load i_157_3 rfl rfl ?_
  exact w_callVC (i := _) i_157_4 ⟨by decide, by decide, by decide, rfl⟩ ⟨rfl, by decide⟩ hκ (⟨rfl, by decide⟩ : isOb 0 6) (av := [.int p0]) (rest := [.int 0, .ref 178]) rfl rfl (Nat.le_of_ble_eq_true rfl) (k1)
theorem i_157_7 : ins 157 7 = some (.i2l, 8, 0, 0, 0, 0) := rfl
theorem i_157_8 : ins 157 8 = some (.lastore, 9, 0, 0, 0, 0) := rfl
theorem i_157_9 : ins 157 9 = some (.goto 6, 12, 15, 0, 0, 0) := rfl
theorem i_157_15 : ins 157 15 = some (.iconst 0, 16, 0, 0, 0, 0) := rfl
theorem i_157_16 : ins 157 16 = some (.ireturn, 17, 0, 0, 0, 0) := rfl
theorem S157_7 {Q : Ou → Prop} {M : Mem} {κ : Kp} (hκ : Rd κ)  {p0 : Int32} {an : Int32}
    (k1 : Q (.inl (some (.int 0)), M, (κ.1, stX (kX κ) 178 an.toInt64.toUInt64, κ.2.2)))
    : RT 157 (7, [.ref 0, .int p0, .ref 178, UU], [.int an, .int 0, .ref 178], M, κ) Q := by
  refine w_i2l i_157_7 ?_
  refine w_last i_157_8 hκ (⟨rfl, by decide⟩ : kd 178 = 24 ∧ 178 < 180) (vp_in_nI (n := 0) (by decide) (by decide)) ?_
  refine w_goto i_157_9 ?_
  refine w_push i_157_15 rfl ?_
  exact w_iret i_157_16 (.inl rfl) (k1)
theorem i_158_0 : ins 158 0 = some (.aload_n 2, 1, 2, 0, 0, 0) := rfl
theorem i_158_1 : ins 158 1 = some (.iconst 0, 2, 0, 0, 0, 0) := rfl
theorem i_158_2 : ins 158 2 = some (.aload_n 0, 3, 0, 0, 0, 0) := rfl
theorem i_158_3 : ins 158 3 = some (.iload_n 1, 4, 1, 0, 0, 0) := rfl
theorem i_158_4 : ins 158 4 = some (.invokevirtual 40, 7, 74, 0, 2, 0) := rfl
theorem S158_0 {Q : Ou → Prop} {M : Mem} {κ : Kp} (hκ : Rd κ)  {p0 : Int32}
    (k1 : RT 74 (0, entL 74 [.ref 0, .int p0], [], M, κ) (fun o => (∃ v M1 κ1, o = (.inl v, M1, κ1) ∧ RT 158 (7, [.ref 0, .int p0, .ref 178, UU], v.toList ++ [.int 0, .ref 178], M1, κ1) Q) ∨ ∃ f M1 κ1 w n hp, o = (.inr f, M1, κ1) ∧ (158, f, w, n, hp) ∈ hdL ∧ Q (.inl (some (.int w)), M1, κ1)))
    : RT 158 (0, [.ref 0, .int p0, .ref 178, UU], [], M, κ) Q := by
  refine w_load i_158_0 rfl rfl ?_
  refine w_push i_158_1 rfl ?_
  refine w_load i_158_2 rfl rfl ?_
  refine w_load i_158_3 rfl rfl ?_
  exact w_callVC (i := _) i_158_4 ⟨by decide, by decide, by decide, rfl⟩ ⟨rfl, by decide⟩ hκ (⟨rfl, by decide⟩ : isOb 0 6) (av := [.int p0]) (rest := [.int 0, .ref 178]) rfl rfl (Nat.le_of_ble_eq_true rfl) (k1)
theorem i_158_7 : ins 158 7 = some (.i2l, 8, 0, 0, 0, 0) := rfl
theorem i_158_8 : ins 158 8 = some (.lastore, 9, 0, 0, 0, 0) := rfl
theorem i_158_9 : ins 158 9 = some (.goto 6, 12, 15, 0, 0, 0) := rfl
theorem i_158_15 : ins 158 15 = some (.iconst 0, 16, 0, 0, 0, 0) := rfl
theorem i_158_16 : ins 158 16 = some (.ireturn, 17, 0, 0, 0, 0) := rfl
theorem S158_7 {Q : Ou → Prop} {M : Mem} {κ : Kp} (hκ : Rd κ)  {p0 : Int32} {an : Int32}
    (k1 : Q (.inl (some (.int 0)), M, (κ.1, stX (kX κ) 178 an.toInt64.toUInt64, κ.2.2)))
    : RT 158 (7, [.ref 0, .int p0, .ref 178, UU], [.int an, .int 0, .ref 178], M, κ) Q := by
  refine w_i2l i_158_7 ?_
  refine w_last i_158_8 hκ (⟨rfl, by decide⟩ : kd 178 = 24 ∧ 178 < 180) (vp_in_nI (n := 0) (by decide) (by decide)) ?_
  refine w_goto i_158_9 ?_
  refine w_push i_158_15 rfl ?_
  exact w_iret i_158_16 (.inl rfl) (k1)
theorem i_159_0 : ins 159 0 = some (.aload_n 2, 1, 2, 0, 0, 0) := rfl
theorem i_159_1 : ins 159 1 = some (.iconst 0, 2, 0, 0, 0, 0) := rfl
theorem i_159_2 : ins 159 2 = some (.aload_n 0, 3, 0, 0, 0, 0) := rfl
theorem i_159_3 : ins 159 3 = some (.iload_n 1, 4, 1, 0, 0, 0) := rfl
theorem i_159_4 : ins 159 4 = some (.invokevirtual 43, 7, 75, 0, 2, 0) := rfl
theorem S159_0 {Q : Ou → Prop} {M : Mem} {κ : Kp} (hκ : Rd κ)  {p0 : Int32}
    (k1 : RT 75 (0, entL 75 [.ref 0, .int p0], [], M, κ) (fun o => (∃ v M1 κ1, o = (.inl v, M1, κ1) ∧ RT 159 (7, [.ref 0, .int p0, .ref 178, UU], v.toList ++ [.int 0, .ref 178], M1, κ1) Q) ∨ ∃ f M1 κ1 w n hp, o = (.inr f, M1, κ1) ∧ (159, f, w, n, hp) ∈ hdL ∧ Q (.inl (some (.int w)), M1, κ1)))
    : RT 159 (0, [.ref 0, .int p0, .ref 178, UU], [], M, κ) Q := by
  refine w_load i_159_0 rfl rfl ?_
  refine w_push i_159_1 rfl ?_
  refine w_load i_159_2 rfl rfl ?_
  refine w_load i_159_3 rfl rfl ?_
  exact w_callVC (i := _) i_159_4 ⟨by decide, by decide, by decide, rfl⟩ ⟨rfl, by decide⟩ hκ (⟨rfl, by decide⟩ : isOb 0 6) (av := [.int p0]) (rest := [.int 0, .ref 178]) rfl rfl (Nat.le_of_ble_eq_true rfl) (k1)
theorem i_159_7 : ins 159 7 = some (.i2l, 8, 0, 0, 0, 0) := rfl
theorem i_159_8 : ins 159 8 = some (.lastore, 9, 0, 0, 0, 0) := rfl
theorem i_159_9 : ins 159 9 = some (.goto 6, 12, 15, 0, 0, 0) := rfl
theorem i_159_15 : ins 159 15 = some (.iconst 0, 16, 0, 0, 0, 0) := rfl
theorem i_159_16 : ins 159 16 = some (.ireturn, 17, 0, 0, 0, 0) := rfl
theorem S159_7 {Q : Ou → Prop} {M : Mem} {κ : Kp} (hκ : Rd κ)  {p0 : Int32} {an : Int32}
    (k1 : Q (.inl (some (.int 0)), M, (κ.1, stX (kX κ) 178 an.toInt64.toUInt64, κ.2.2)))
    : RT 159 (7, [.ref 0, .int p0, .ref 178, UU], [.int an, .int 0, .ref 178], M, κ) Q := by
  refine w_i2l i_159_7 ?_
  refine w_last i_159_8 hκ (⟨rfl, by decide⟩ : kd 178 = 24 ∧ 178 < 180) (vp_in_nI (n := 0) (by decide) (by decide)) ?_
  refine w_goto i_159_9 ?_
  refine w_push i_159_15 rfl ?_
  exact w_iret i_159_16 (.inl rfl) (k1)
theorem i_160_0 : ins 160 0 = some (.aload_n 3, 1, 3, 0, 0, 0) := rfl
theorem i_160_1 : ins 160 1 = some (.iconst 0, 2, 0, 0, 0, 0) := rfl
theorem i_160_2 : ins 160 2 = some (.aload_n 0, 3, 0, 0, 0, 0) := rfl
theorem i_160_3 : ins 160 3 = some (.iload_n 1, 4, 1, 0, 0, 0) := rfl
theorem i_160_4 : ins 160 4 = some (.iload_n 2, 5, 2, 0, 0, 0) := rfl
theorem i_160_5 : ins 160 5 = some (.invokevirtual 46, 8, 76, 0, 3, 0) := rfl
theorem S160_0 {Q : Ou → Prop} {M : Mem} {κ : Kp} (hκ : Rd κ)  {p0 : Int32} {p1 : Int32}
    (k1 : RT 76 (0, entL 76 [.ref 0, .int p0, .int p1], [], M, κ) (fun o => (∃ v M1 κ1, o = (.inl v, M1, κ1) ∧ RT 160 (8, [.ref 0, .int p0, .int p1, .ref 178, UU], v.toList ++ [.int 0, .ref 178], M1, κ1) Q) ∨ ∃ f M1 κ1 w n hp, o = (.inr f, M1, κ1) ∧ (160, f, w, n, hp) ∈ hdL ∧ Q (.inl (some (.int w)), M1, κ1)))
    : RT 160 (0, [.ref 0, .int p0, .int p1, .ref 178, UU], [], M, κ) Q := by
  refine w_load i_160_0 rfl rfl ?_
  refine w_push i_160_1 rfl ?_
  refine w_load i_160_2 rfl rfl ?_
  refine w_load i_160_3 rfl rfl ?_
  refine w_load i_160_4 rfl rfl ?_
  exact w_callVC (i := _) i_160_5 ⟨by decide, by decide, by decide, rfl⟩ ⟨rfl, by decide⟩ hκ (⟨rfl, by decide⟩ : isOb 0 6) (av := [.int p0, .int p1]) (rest := [.int 0, .ref 178]) rfl rfl (Nat.le_of_ble_eq_true rfl) (k1)
theorem i_160_8 : ins 160 8 = some (.i2l, 9, 0, 0, 0, 0) := rfl
theorem i_160_9 : ins 160 9 = some (.lastore, 10, 0, 0, 0, 0) := rfl
theorem i_160_10 : ins 160 10 = some (.goto 15, 13, 25, 0, 0, 0) := rfl
theorem i_160_25 : ins 160 25 = some (.iconst 0, 26, 0, 0, 0, 0) := rfl
theorem i_160_26 : ins 160 26 = some (.ireturn, 27, 0, 0, 0, 0) := rfl
theorem S160_8 {Q : Ou → Prop} {M : Mem} {κ : Kp} (hκ : Rd κ)  {p0 : Int32} {p1 : Int32} {an : Int32}
    (k1 : Q (.inl (some (.int 0)), M, (κ.1, stX (kX κ) 178 an.toInt64.toUInt64, κ.2.2)))
    : RT 160 (8, [.ref 0, .int p0, .int p1, .ref 178, UU], [.int an, .int 0, .ref 178], M, κ) Q := by
  refine w_i2l i_160_8 ?_
  refine w_last i_160_9 hκ (⟨rfl, by decide⟩ : kd 178 = 24 ∧ 178 < 180) (vp_in_nI (n := 0) (by decide) (by decide)) ?_
  refine w_goto i_160_10 ?_
  refine w_push i_160_25 rfl ?_
  exact w_iret i_160_26 (.inl rfl) (k1)
theorem i_161_0 : ins 161 0 = some (.aload 4, 2, 4, 0, 0, 0) := rfl
theorem i_161_2 : ins 161 2 = some (.iconst 0, 3, 0, 0, 0, 0) := rfl
theorem i_161_3 : ins 161 3 = some (.aload_n 0, 4, 0, 0, 0, 0) := rfl
theorem i_161_4 : ins 161 4 = some (.iload_n 1, 5, 1, 0, 0, 0) := rfl
theorem i_161_5 : ins 161 5 = some (.iload_n 2, 6, 2, 0, 0, 0) := rfl
theorem i_161_6 : ins 161 6 = some (.iload_n 3, 7, 3, 0, 0, 0) := rfl
theorem i_161_7 : ins 161 7 = some (.invokevirtual 52, 10, 77, 0, 4, 0) := rfl
theorem S161_0 {Q : Ou → Prop} {M : Mem} {κ : Kp} (hκ : Rd κ)  {p0 : Int32} {p1 : Int32} {p2 : Int32}
    (k1 : RT 77 (0, entL 77 [.ref 0, .int p0, .int p1, .int p2], [], M, κ) (fun o => (∃ v M1 κ1, o = (.inl v, M1, κ1) ∧ RT 161 (10, [.ref 0, .int p0, .int p1, .int p2, .ref 178, UU], v.toList ++ [.int 0, .ref 178], M1, κ1) Q) ∨ ∃ f M1 κ1 w n hp, o = (.inr f, M1, κ1) ∧ (161, f, w, n, hp) ∈ hdL ∧ Q (.inl (some (.int w)), M1, κ1)))
    : RT 161 (0, [.ref 0, .int p0, .int p1, .int p2, .ref 178, UU], [], M, κ) Q := by
  refine w_load i_161_0 rfl rfl ?_
  refine w_push i_161_2 rfl ?_
  refine w_load i_161_3 rfl rfl ?_
  refine w_load i_161_4 rfl rfl ?_
  refine w_load i_161_5 rfl rfl ?_
  refine w_load i_161_6 rfl rfl ?_
  exact w_callVC (i := _) i_161_7 ⟨by decide, by decide, by decide, rfl⟩ ⟨rfl, by decide⟩ hκ (⟨rfl, by decide⟩ : isOb 0 6) (av := [.int p0, .int p1, .int p2]) (rest := [.int 0, .ref 178]) rfl rfl (Nat.le_of_ble_eq_true rfl) (k1)
theorem i_161_10 : ins 161 10 = some (.i2l, 11, 0, 0, 0, 0) := rfl
theorem i_161_11 : ins 161 11 = some (.lastore, 12, 0, 0, 0, 0) := rfl
theorem i_161_12 : ins 161 12 = some (.goto 15, 15, 27, 0, 0, 0) := rfl
theorem i_161_27 : ins 161 27 = some (.iconst 0, 28, 0, 0, 0, 0) := rfl
theorem i_161_28 : ins 161 28 = some (.ireturn, 29, 0, 0, 0, 0) := rfl
theorem S161_10 {Q : Ou → Prop} {M : Mem} {κ : Kp} (hκ : Rd κ)  {p0 : Int32} {p1 : Int32} {p2 : Int32} {an : Int32}
    (k1 : Q (.inl (some (.int 0)), M, (κ.1, stX (kX κ) 178 an.toInt64.toUInt64, κ.2.2)))
    : RT 161 (10, [.ref 0, .int p0, .int p1, .int p2, .ref 178, UU], [.int an, .int 0, .ref 178], M, κ) Q := by
  refine w_i2l i_161_10 ?_
  refine w_last i_161_11 hκ (⟨rfl, by decide⟩ : kd 178 = 24 ∧ 178 < 180) (vp_in_nI (n := 0) (by decide) (by decide)) ?_
  refine w_goto i_161_12 ?_
  refine w_push i_161_27 rfl ?_
  exact w_iret i_161_28 (.inl rfl) (k1)
theorem i_162_0 : ins 162 0 = some (.aload 4, 2, 4, 0, 0, 0) := rfl
theorem i_162_2 : ins 162 2 = some (.iconst 0, 3, 0, 0, 0, 0) := rfl
theorem i_162_3 : ins 162 3 = some (.aload_n 0, 4, 0, 0, 0, 0) := rfl
theorem i_162_4 : ins 162 4 = some (.iload_n 1, 5, 1, 0, 0, 0) := rfl
theorem i_162_5 : ins 162 5 = some (.iload_n 2, 6, 2, 0, 0, 0) := rfl
theorem i_162_6 : ins 162 6 = some (.iload_n 3, 7, 3, 0, 0, 0) := rfl
theorem i_162_7 : ins 162 7 = some (.invokevirtual 56, 10, 78, 0, 4, 0) := rfl
theorem S162_0 {Q : Ou → Prop} {M : Mem} {κ : Kp} (hκ : Rd κ)  {p0 : Int32} {p1 : Int32} {md : Bool}
    (k1 : RT 78 (0, entL 78 [.ref 0, .int p0, .int p1, .int (bI md)], [], M, κ) (fun o => (∃ v M1 κ1, o = (.inl v, M1, κ1) ∧ RT 162 (10, [.ref 0, .int p0, .int p1, .int (bI md), .ref 178, UU], v.toList ++ [.int 0, .ref 178], M1, κ1) Q) ∨ ∃ f M1 κ1 w n hp, o = (.inr f, M1, κ1) ∧ (162, f, w, n, hp) ∈ hdL ∧ Q (.inl (some (.int w)), M1, κ1)))
    : RT 162 (0, [.ref 0, .int p0, .int p1, .int (bI md), .ref 178, UU], [], M, κ) Q := by
  refine w_load i_162_0 rfl rfl ?_
  refine w_push i_162_2 rfl ?_
  refine w_load i_162_3 rfl rfl ?_
  refine w_load i_162_4 rfl rfl ?_
  refine w_load i_162_5 rfl rfl ?_
  refine w_load i_162_6 rfl rfl ?_
  exact w_callVC (i := _) i_162_7 ⟨by decide, by decide, by decide, rfl⟩ ⟨rfl, by decide⟩ hκ (⟨rfl, by decide⟩ : isOb 0 6) (av := [.int p0, .int p1, .int (bI md)]) (rest := [.int 0, .ref 178]) rfl rfl (Nat.le_of_ble_eq_true rfl) (k1)
theorem i_162_10 : ins 162 10 = some (.lastore, 11, 0, 0, 0, 0) := rfl
theorem i_162_11 : ins 162 11 = some (.goto 15, 14, 26, 0, 0, 0) := rfl
theorem i_162_26 : ins 162 26 = some (.iconst 0, 27, 0, 0, 0, 0) := rfl
theorem i_162_27 : ins 162 27 = some (.ireturn, 28, 0, 0, 0, 0) := rfl
theorem S162_10 {Q : Ou → Prop} {M : Mem} {κ : Kp} (hκ : Rd κ)  {p0 : Int32} {p1 : Int32} {md : Bool} {an : Int64}
    (k1 : Q (.inl (some (.int 0)), M, (κ.1, stX (kX κ) 178 an.toUInt64, κ.2.2)))
    : RT 162 (10, [.ref 0, .int p0, .int p1, .int (bI md), .ref 178, UU], [.long an, .int 0, .ref 178], M, κ) Q := by
  refine w_last i_162_10 hκ (⟨rfl, by decide⟩ : kd 178 = 24 ∧ 178 < 180) (vp_in_nI (n := 0) (by decide) (by decide)) ?_
  refine w_goto i_162_11 ?_
  refine w_push i_162_26 rfl ?_
  exact w_iret i_162_27 (.inl rfl) (k1)
theorem i_163_0 : ins 163 0 = some (.aload_n 2, 1, 2, 0, 0, 0) := rfl
theorem i_163_1 : ins 163 1 = some (.iconst 0, 2, 0, 0, 0, 0) := rfl
theorem i_163_2 : ins 163 2 = some (.aload_n 0, 3, 0, 0, 0, 0) := rfl
theorem i_163_3 : ins 163 3 = some (.iload_n 1, 4, 1, 0, 0, 0) := rfl
theorem i_163_4 : ins 163 4 = some (.invokevirtual 60, 7, 79, 0, 2, 0) := rfl
theorem S163_0 {Q : Ou → Prop} {M : Mem} {κ : Kp} (hκ : Rd κ)  {p0 : Int32}
    (k1 : RT 79 (0, entL 79 [.ref 0, .int p0], [], M, κ) (fun o => (∃ v M1 κ1, o = (.inl v, M1, κ1) ∧ RT 163 (7, [.ref 0, .int p0, .ref 179, UU], v.toList ++ [.int 0, .ref 179], M1, κ1) Q) ∨ ∃ f M1 κ1 w n hp, o = (.inr f, M1, κ1) ∧ (163, f, w, n, hp) ∈ hdL ∧ Q (.inl (some (.int w)), M1, κ1)))
    : RT 163 (0, [.ref 0, .int p0, .ref 179, UU], [], M, κ) Q := by
  refine w_load i_163_0 rfl rfl ?_
  refine w_push i_163_1 rfl ?_
  refine w_load i_163_2 rfl rfl ?_
  refine w_load i_163_3 rfl rfl ?_
  exact w_callVC (i := _) i_163_4 ⟨by decide, by decide, by decide, rfl⟩ ⟨rfl, by decide⟩ hκ (⟨rfl, by decide⟩ : isOb 0 6) (av := [.int p0]) (rest := [.int 0, .ref 179]) rfl rfl (Nat.le_of_ble_eq_true rfl) (k1)
theorem i_163_7 : ins 163 7 = some (.dastore, 8, 0, 0, 0, 0) := rfl
theorem i_163_8 : ins 163 8 = some (.goto 9, 11, 17, 0, 0, 0) := rfl
theorem i_163_17 : ins 163 17 = some (.iconst 0, 18, 0, 0, 0, 0) := rfl
theorem i_163_18 : ins 163 18 = some (.ireturn, 19, 0, 0, 0, 0) := rfl
theorem S163_7 {Q : Ou → Prop} {M : Mem} {κ : Kp} (hκ : Rd κ)  {p0 : Int32} {an : UInt64}
    (k1 : Q (.inl (some (.int 0)), M, (κ.1, stX (kX κ) 179 an, κ.2.2)))
    : RT 163 (7, [.ref 0, .int p0, .ref 179, UU], [.double an, .int 0, .ref 179], M, κ) Q := by
  refine w_dast i_163_7 hκ (⟨rfl, by decide⟩ : kd 179 = 25 ∧ 179 < 180) (vp_in_nI (n := 0) (by decide) (by decide)) ?_
  refine w_goto i_163_8 ?_
  refine w_push i_163_17 rfl ?_
  exact w_iret i_163_18 (.inl rfl) (k1)
set_option maxRecDepth 100000 in
theorem i_166_28 : ins 166 28 = some (.iload 5, 30, 5, 0, 0, 0) := rfl
set_option maxRecDepth 100000 in
theorem i_166_30 : ins 166 30 = some (.aload_n 0, 31, 0, 0, 0, 0) := rfl
set_option maxRecDepth 100000 in
theorem i_166_31 : ins 166 31 = some (.arraylength, 32, 0, 0, 0, 0) := rfl
set_option maxRecDepth 100000 in
theorem i_166_32 : ins 166 32 = some (.bipush 7, 34, 0, 0, 0, 7) := rfl
set_option maxRecDepth 100000 in
theorem i_166_34 : ins 166 34 = some (.isub, 35, 0, 0, 0, 0) := rfl
set_option maxRecDepth 100000 in
theorem i_166_35 : ins 166 35 = some (.if_icmp .gt 1046, 38, 1081, 0, 0, 0) := rfl
set_option maxRecDepth 100000 in
theorem i_166_38 : ins 166 38 = some (.aload_n 0, 39, 0, 0, 0, 0) := rfl
set_option maxRecDepth 100000 in
theorem i_166_39 : ins 166 39 = some (.iload 5, 41, 5, 0, 0, 0) := rfl
set_option maxRecDepth 100000 in
theorem i_166_41 : ins 166 41 = some (.iaload, 42, 0, 0, 0, 0) := rfl
set_option maxRecDepth 100000 in
theorem i_166_42 : ins 166 42 = some (.bipush 15, 44, 0, 0, 0, 15) := rfl
set_option maxRecDepth 100000 in
theorem i_166_44 : ins 166 44 = some (.iand, 45, 0, 0, 0, 0) := rfl
set_option maxRecDepth 100000 in
theorem i_166_45 : ins 166 45 = some (.tableswitch 1030 0 14 #[75, 173, 265, 383, 394, 429, 454, 498, 542, 598, 654, 710, 778, 858, 953], 120, 0, 0, 0, 0) := rfl
set_option maxRecDepth 100000 in
theorem i_166_1081 : ins 166 1081 = some (.iconst 1, 1082, 0, 0, 0, 1) := rfl
set_option maxRecDepth 100000 in
theorem i_166_1082 : ins 166 1082 = some (.ireturn, 1083, 0, 0, 0, 0) := rfl
theorem tg_166_45 {x : Int32} (h0 : ¬ x = 0) (h1 : ¬ x = 1) (h2 : ¬ x = 2) (h3 : ¬ x = 3) (h4 : ¬ x = 4) (h5 : ¬ x = 5) (h6 : ¬ x = 6) (h7 : ¬ x = 7) (h8 : ¬ x = 8) (h9 : ¬ x = 9) (h10 : ¬ x = 10) (h11 : ¬ x = 11) (h12 : ¬ x = 12) (h13 : ¬ x = 13) (h14 : ¬ x = 14) : tgtOk 45 (.tableswitch 1030 0 14 #[75, 173, 265, 383, 394, 429, 454, 498, 542, 598, 654, 710, 778, 858, 953]) x 1075 = true := tgd (by have e0 : x.toInt ≠ 0 := fun e => h0 (Int32.toInt_inj.mp e); have e1 : x.toInt ≠ 1 := fun e => h1 (Int32.toInt_inj.mp e); have e2 : x.toInt ≠ 2 := fun e => h2 (Int32.toInt_inj.mp e); have e3 : x.toInt ≠ 3 := fun e => h3 (Int32.toInt_inj.mp e); have e4 : x.toInt ≠ 4 := fun e => h4 (Int32.toInt_inj.mp e); have e5 : x.toInt ≠ 5 := fun e => h5 (Int32.toInt_inj.mp e); have e6 : x.toInt ≠ 6 := fun e => h6 (Int32.toInt_inj.mp e); have e7 : x.toInt ≠ 7 := fun e => h7 (Int32.toInt_inj.mp e); have e8 : x.toInt ≠ 8 := fun e => h8 (Int32.toInt_inj.mp e); have e9 : x.toInt ≠ 9 := fun e => h9 (Int32.toInt_inj.mp e); have e10 : x.toInt ≠ 10 := fun e => h10 (Int32.toInt_inj.mp e); have e11 : x.toInt ≠ 11 := fun e => h11 (Int32.toInt_inj.mp e); have e12 : x.toInt ≠ 12 := fun e => h12 (Int32.toInt_inj.mp e); have e13 : x.toInt ≠ 13 := fun e => h13 (Int32.toInt_inj.mp e); have e14 : x.toInt ≠ 14 := fun e => h14 (Int32.toInt_inj.mp e); omega) (by decide)
theorem S166_28 {Q : Ou → Prop} {M : Mem} {κ : Kp} (hκ : Rd κ)  {i : Nat} (b_i : i ≤ 100000)
    (o1 : ¬ (((Int32.ofNat (kL κ)) - 7) < (nI i)) → vp_in (nI i) (kL κ))
    (k1 : ((Int32.ofNat (kL κ)) - 7) < (nI i) → Q (.inl (some (.int 1)), M, κ))
    (k2 : ¬ (((Int32.ofNat (kL κ)) - 7) < (nI i)) → ((M 999 (nI i).toNatClampNeg) &&& 15) = 0 → RT 166 (120, [.ref 999, .ref 0, .ref 134, .ref 178, .ref 179, .int (nI i), UU, UU, UU], [], M, κ) Q)
    (k3 : ¬ (((Int32.ofNat (kL κ)) - 7) < (nI i)) → ¬ (((M 999 (nI i).toNatClampNeg) &&& 15) = 0) → ((M 999 (nI i).toNatClampNeg) &&& 15) = 1 → RT 166 (218, [.ref 999, .ref 0, .ref 134, .ref 178, .ref 179, .int (nI i), UU, UU, UU], [], M, κ) Q)
    (k4 : ¬ (((Int32.ofNat (kL κ)) - 7) < (nI i)) → ¬ (((M 999 (nI i).toNatClampNeg) &&& 15) = 0) → ¬ (((M 999 (nI i).toNatClampNeg) &&& 15) = 1) → ((M 999 (nI i).toNatClampNeg) &&& 15) = 2 → RT 166 (310, [.ref 999, .ref 0, .ref 134, .ref 178, .ref 179, .int (nI i), UU, UU, UU], [], M, κ) Q)
    (k5 : ¬ (((Int32.ofNat (kL κ)) - 7) < (nI i)) → ¬ (((M 999 (nI i).toNatClampNeg) &&& 15) = 0) → ¬ (((M 999 (nI i).toNatClampNeg) &&& 15) = 1) → ¬ (((M 999 (nI i).toNatClampNeg) &&& 15) = 2) → ((M 999 (nI i).toNatClampNeg) &&& 15) = 3 → RT 166 (428, [.ref 999, .ref 0, .ref 134, .ref 178, .ref 179, .int (nI i), UU, UU, UU], [], M, κ) Q)
    (k6 : ¬ (((Int32.ofNat (kL κ)) - 7) < (nI i)) → ¬ (((M 999 (nI i).toNatClampNeg) &&& 15) = 0) → ¬ (((M 999 (nI i).toNatClampNeg) &&& 15) = 1) → ¬ (((M 999 (nI i).toNatClampNeg) &&& 15) = 2) → ¬ (((M 999 (nI i).toNatClampNeg) &&& 15) = 3) → ((M 999 (nI i).toNatClampNeg) &&& 15) = 4 → RT 166 (439, [.ref 999, .ref 0, .ref 134, .ref 178, .ref 179, .int (nI i), UU, UU, UU], [], M, κ) Q)
    (k7 : ¬ (((Int32.ofNat (kL κ)) - 7) < (nI i)) → ¬ (((M 999 (nI i).toNatClampNeg) &&& 15) = 0) → ¬ (((M 999 (nI i).toNatClampNeg) &&& 15) = 1) → ¬ (((M 999 (nI i).toNatClampNeg) &&& 15) = 2) → ¬ (((M 999 (nI i).toNatClampNeg) &&& 15) = 3) → ¬ (((M 999 (nI i).toNatClampNeg) &&& 15) = 4) → ((M 999 (nI i).toNatClampNeg) &&& 15) = 5 → RT 166 (474, [.ref 999, .ref 0, .ref 134, .ref 178, .ref 179, .int (nI i), UU, UU, UU], [], M, κ) Q)
    (k8 : ¬ (((Int32.ofNat (kL κ)) - 7) < (nI i)) → ¬ (((M 999 (nI i).toNatClampNeg) &&& 15) = 0) → ¬ (((M 999 (nI i).toNatClampNeg) &&& 15) = 1) → ¬ (((M 999 (nI i).toNatClampNeg) &&& 15) = 2) → ¬ (((M 999 (nI i).toNatClampNeg) &&& 15) = 3) → ¬ (((M 999 (nI i).toNatClampNeg) &&& 15) = 4) → ¬ (((M 999 (nI i).toNatClampNeg) &&& 15) = 5) → ((M 999 (nI i).toNatClampNeg) &&& 15) = 6 → RT 166 (499, [.ref 999, .ref 0, .ref 134, .ref 178, .ref 179, .int (nI i), UU, UU, UU], [], M, κ) Q)
    (k9 : ¬ (((Int32.ofNat (kL κ)) - 7) < (nI i)) → ¬ (((M 999 (nI i).toNatClampNeg) &&& 15) = 0) → ¬ (((M 999 (nI i).toNatClampNeg) &&& 15) = 1) → ¬ (((M 999 (nI i).toNatClampNeg) &&& 15) = 2) → ¬ (((M 999 (nI i).toNatClampNeg) &&& 15) = 3) → ¬ (((M 999 (nI i).toNatClampNeg) &&& 15) = 4) → ¬ (((M 999 (nI i).toNatClampNeg) &&& 15) = 5) → ¬ (((M 999 (nI i).toNatClampNeg) &&& 15) = 6) → ((M 999 (nI i).toNatClampNeg) &&& 15) = 7 → RT 166 (543, [.ref 999, .ref 0, .ref 134, .ref 178, .ref 179, .int (nI i), UU, UU, UU], [], M, κ) Q)
    (k10 : ¬ (((Int32.ofNat (kL κ)) - 7) < (nI i)) → ¬ (((M 999 (nI i).toNatClampNeg) &&& 15) = 0) → ¬ (((M 999 (nI i).toNatClampNeg) &&& 15) = 1) → ¬ (((M 999 (nI i).toNatClampNeg) &&& 15) = 2) → ¬ (((M 999 (nI i).toNatClampNeg) &&& 15) = 3) → ¬ (((M 999 (nI i).toNatClampNeg) &&& 15) = 4) → ¬ (((M 999 (nI i).toNatClampNeg) &&& 15) = 5) → ¬ (((M 999 (nI i).toNatClampNeg) &&& 15) = 6) → ¬ (((M 999 (nI i).toNatClampNeg) &&& 15) = 7) → ((M 999 (nI i).toNatClampNeg) &&& 15) = 8 → RT 166 (587, [.ref 999, .ref 0, .ref 134, .ref 178, .ref 179, .int (nI i), UU, UU, UU], [], M, κ) Q)
    (k11 : ¬ (((Int32.ofNat (kL κ)) - 7) < (nI i)) → ¬ (((M 999 (nI i).toNatClampNeg) &&& 15) = 0) → ¬ (((M 999 (nI i).toNatClampNeg) &&& 15) = 1) → ¬ (((M 999 (nI i).toNatClampNeg) &&& 15) = 2) → ¬ (((M 999 (nI i).toNatClampNeg) &&& 15) = 3) → ¬ (((M 999 (nI i).toNatClampNeg) &&& 15) = 4) → ¬ (((M 999 (nI i).toNatClampNeg) &&& 15) = 5) → ¬ (((M 999 (nI i).toNatClampNeg) &&& 15) = 6) → ¬ (((M 999 (nI i).toNatClampNeg) &&& 15) = 7) → ¬ (((M 999 (nI i).toNatClampNeg) &&& 15) = 8) → ((M 999 (nI i).toNatClampNeg) &&& 15) = 9 → RT 166 (643, [.ref 999, .ref 0, .ref 134, .ref 178, .ref 179, .int (nI i), UU, UU, UU], [], M, κ) Q)
    (k12 : ¬ (((Int32.ofNat (kL κ)) - 7) < (nI i)) → ¬ (((M 999 (nI i).toNatClampNeg) &&& 15) = 0) → ¬ (((M 999 (nI i).toNatClampNeg) &&& 15) = 1) → ¬ (((M 999 (nI i).toNatClampNeg) &&& 15) = 2) → ¬ (((M 999 (nI i).toNatClampNeg) &&& 15) = 3) → ¬ (((M 999 (nI i).toNatClampNeg) &&& 15) = 4) → ¬ (((M 999 (nI i).toNatClampNeg) &&& 15) = 5) → ¬ (((M 999 (nI i).toNatClampNeg) &&& 15) = 6) → ¬ (((M 999 (nI i).toNatClampNeg) &&& 15) = 7) → ¬ (((M 999 (nI i).toNatClampNeg) &&& 15) = 8) → ¬ (((M 999 (nI i).toNatClampNeg) &&& 15) = 9) → ((M 999 (nI i).toNatClampNeg) &&& 15) = 10 → RT 166 (699, [.ref 999, .ref 0, .ref 134, .ref 178, .ref 179, .int (nI i), UU, UU, UU], [], M, κ) Q)
    (k13 : ¬ (((Int32.ofNat (kL κ)) - 7) < (nI i)) → ¬ (((M 999 (nI i).toNatClampNeg) &&& 15) = 0) → ¬ (((M 999 (nI i).toNatClampNeg) &&& 15) = 1) → ¬ (((M 999 (nI i).toNatClampNeg) &&& 15) = 2) → ¬ (((M 999 (nI i).toNatClampNeg) &&& 15) = 3) → ¬ (((M 999 (nI i).toNatClampNeg) &&& 15) = 4) → ¬ (((M 999 (nI i).toNatClampNeg) &&& 15) = 5) → ¬ (((M 999 (nI i).toNatClampNeg) &&& 15) = 6) → ¬ (((M 999 (nI i).toNatClampNeg) &&& 15) = 7) → ¬ (((M 999 (nI i).toNatClampNeg) &&& 15) = 8) → ¬ (((M 999 (nI i).toNatClampNeg) &&& 15) = 9) → ¬ (((M 999 (nI i).toNatClampNeg) &&& 15) = 10) → ((M 999 (nI i).toNatClampNeg) &&& 15) = 11 → RT 166 (755, [.ref 999, .ref 0, .ref 134, .ref 178, .ref 179, .int (nI i), UU, UU, UU], [], M, κ) Q)
    (k14 : ¬ (((Int32.ofNat (kL κ)) - 7) < (nI i)) → ¬ (((M 999 (nI i).toNatClampNeg) &&& 15) = 0) → ¬ (((M 999 (nI i).toNatClampNeg) &&& 15) = 1) → ¬ (((M 999 (nI i).toNatClampNeg) &&& 15) = 2) → ¬ (((M 999 (nI i).toNatClampNeg) &&& 15) = 3) → ¬ (((M 999 (nI i).toNatClampNeg) &&& 15) = 4) → ¬ (((M 999 (nI i).toNatClampNeg) &&& 15) = 5) → ¬ (((M 999 (nI i).toNatClampNeg) &&& 15) = 6) → ¬ (((M 999 (nI i).toNatClampNeg) &&& 15) = 7) → ¬ (((M 999 (nI i).toNatClampNeg) &&& 15) = 8) → ¬ (((M 999 (nI i).toNatClampNeg) &&& 15) = 9) → ¬ (((M 999 (nI i).toNatClampNeg) &&& 15) = 10) → ¬ (((M 999 (nI i).toNatClampNeg) &&& 15) = 11) → ((M 999 (nI i).toNatClampNeg) &&& 15) = 12 → RT 166 (823, [.ref 999, .ref 0, .ref 134, .ref 178, .ref 179, .int (nI i), UU, UU, UU], [], M, κ) Q)
    (k15 : ¬ (((Int32.ofNat (kL κ)) - 7) < (nI i)) → ¬ (((M 999 (nI i).toNatClampNeg) &&& 15) = 0) → ¬ (((M 999 (nI i).toNatClampNeg) &&& 15) = 1) → ¬ (((M 999 (nI i).toNatClampNeg) &&& 15) = 2) → ¬ (((M 999 (nI i).toNatClampNeg) &&& 15) = 3) → ¬ (((M 999 (nI i).toNatClampNeg) &&& 15) = 4) → ¬ (((M 999 (nI i).toNatClampNeg) &&& 15) = 5) → ¬ (((M 999 (nI i).toNatClampNeg) &&& 15) = 6) → ¬ (((M 999 (nI i).toNatClampNeg) &&& 15) = 7) → ¬ (((M 999 (nI i).toNatClampNeg) &&& 15) = 8) → ¬ (((M 999 (nI i).toNatClampNeg) &&& 15) = 9) → ¬ (((M 999 (nI i).toNatClampNeg) &&& 15) = 10) → ¬ (((M 999 (nI i).toNatClampNeg) &&& 15) = 11) → ¬ (((M 999 (nI i).toNatClampNeg) &&& 15) = 12) → ((M 999 (nI i).toNatClampNeg) &&& 15) = 13 → RT 166 (903, [.ref 999, .ref 0, .ref 134, .ref 178, .ref 179, .int (nI i), UU, UU, UU], [], M, κ) Q)
    (k16 : ¬ (((Int32.ofNat (kL κ)) - 7) < (nI i)) → ¬ (((M 999 (nI i).toNatClampNeg) &&& 15) = 0) → ¬ (((M 999 (nI i).toNatClampNeg) &&& 15) = 1) → ¬ (((M 999 (nI i).toNatClampNeg) &&& 15) = 2) → ¬ (((M 999 (nI i).toNatClampNeg) &&& 15) = 3) → ¬ (((M 999 (nI i).toNatClampNeg) &&& 15) = 4) → ¬ (((M 999 (nI i).toNatClampNeg) &&& 15) = 5) → ¬ (((M 999 (nI i).toNatClampNeg) &&& 15) = 6) → ¬ (((M 999 (nI i).toNatClampNeg) &&& 15) = 7) → ¬ (((M 999 (nI i).toNatClampNeg) &&& 15) = 8) → ¬ (((M 999 (nI i).toNatClampNeg) &&& 15) = 9) → ¬ (((M 999 (nI i).toNatClampNeg) &&& 15) = 10) → ¬ (((M 999 (nI i).toNatClampNeg) &&& 15) = 11) → ¬ (((M 999 (nI i).toNatClampNeg) &&& 15) = 12) → ¬ (((M 999 (nI i).toNatClampNeg) &&& 15) = 13) → ((M 999 (nI i).toNatClampNeg) &&& 15) = 14 → RT 166 (998, [.ref 999, .ref 0, .ref 134, .ref 178, .ref 179, .int (nI i), UU, UU, UU], [], M, κ) Q)
    (k17 : ¬ (((Int32.ofNat (kL κ)) - 7) < (nI i)) → ¬ (((M 999 (nI i).toNatClampNeg) &&& 15) = 0) → ¬ (((M 999 (nI i).toNatClampNeg) &&& 15) = 1) → ¬ (((M 999 (nI i).toNatClampNeg) &&& 15) = 2) → ¬ (((M 999 (nI i).toNatClampNeg) &&& 15) = 3) → ¬ (((M 999 (nI i).toNatClampNeg) &&& 15) = 4) → ¬ (((M 999 (nI i).toNatClampNeg) &&& 15) = 5) → ¬ (((M 999 (nI i).toNatClampNeg) &&& 15) = 6) → ¬ (((M 999 (nI i).toNatClampNeg) &&& 15) = 7) → ¬ (((M 999 (nI i).toNatClampNeg) &&& 15) = 8) → ¬ (((M 999 (nI i).toNatClampNeg) &&& 15) = 9) → ¬ (((M 999 (nI i).toNatClampNeg) &&& 15) = 10) → ¬ (((M 999 (nI i).toNatClampNeg) &&& 15) = 11) → ¬ (((M 999 (nI i).toNatClampNeg) &&& 15) = 12) → ¬ (((M 999 (nI i).toNatClampNeg) &&& 15) = 13) → ¬ (((M 999 (nI i).toNatClampNeg) &&& 15) = 14) → RT 166 (1075, [.ref 999, .ref 0, .ref 134, .ref 178, .ref 179, .int (nI i), UU, UU, UU], [], M, κ) Q)
    : RT 166 (28, [.ref 999, .ref 0, .ref 134, .ref 178, .ref 179, .int (nI i), UU, UU, UU], [], M, κ) Q := by
  refine w_load i_166_28 rfl rfl ?_
  refine w_load i_166_30 rfl rfl ?_
  refine w_slen i_166_31 ?_
  refine w_push i_166_32 rfl ?_
  refine w_bin (w := ((Int32.ofNat (kL κ)) - 7)) i_166_34 rfl rfl ?_
  refine w_if2 (((Int32.ofNat (kL κ)) - 7) < (nI i)) i_166_35 cI_gt ?_ ?_
  · intro h1
    refine w_push i_166_1081 rfl ?_
    exact w_iret i_166_1082 (.inr ⟨rfl, rfl⟩) (k1 h1)
  · intro h2
    refine w_load i_166_38 rfl rfl ?_
    refine w_load i_166_39 rfl rfl ?_
    refine w_sald i_166_41 (o1 h2) ?_
    refine w_push i_166_42 rfl ?_
    refine w_bin (w := ((M 999 (nI i).toNatClampNeg) &&& 15)) i_166_44 rfl rfl ?_
    by_cases h3 : ((M 999 (nI i).toNatClampNeg) &&& 15) = 0
    · refine w_table 120 i_166_45 (by rw [h3]; rfl) ?_
      exact (k2 h2 h3)
    · have h4 := h3
      by_cases h5 : ((M 999 (nI i).toNatClampNeg) &&& 15) = 1
      · refine w_table 218 i_166_45 (by rw [h5]; rfl) ?_
        exact (k3 h2 h4 h5)
      · have h6 := h5
        by_cases h7 : ((M 999 (nI i).toNatClampNeg) &&& 15) = 2
        · refine w_table 310 i_166_45 (by rw [h7]; rfl) ?_
          exact (k4 h2 h4 h6 h7)
        · have h8 := h7
          by_cases h9 : ((M 999 (nI i).toNatClampNeg) &&& 15) = 3
          · refine w_table 428 i_166_45 (by rw [h9]; rfl) ?_
            exact (k5 h2 h4 h6 h8 h9)
          · have h10 := h9
            by_cases h11 : ((M 999 (nI i).toNatClampNeg) &&& 15) = 4
            · refine w_table 439 i_166_45 (by rw [h11]; rfl) ?_
              exact (k6 h2 h4 h6 h8 h10 h11)
            · have h12 := h11
              by_cases h13 : ((M 999 (nI i).toNatClampNeg) &&& 15) = 5
              · refine w_table 474 i_166_45 (by rw [h13]; rfl) ?_
                exact (k7 h2 h4 h6 h8 h10 h12 h13)
              · have h14 := h13
                by_cases h15 : ((M 999 (nI i).toNatClampNeg) &&& 15) = 6
                · refine w_table 499 i_166_45 (by rw [h15]; rfl) ?_
                  exact (k8 h2 h4 h6 h8 h10 h12 h14 h15)
                · have h16 := h15
                  by_cases h17 : ((M 999 (nI i).toNatClampNeg) &&& 15) = 7
                  · refine w_table 543 i_166_45 (by rw [h17]; rfl) ?_
                    exact (k9 h2 h4 h6 h8 h10 h12 h14 h16 h17)
                  · have h18 := h17
                    by_cases h19 : ((M 999 (nI i).toNatClampNeg) &&& 15) = 8
                    · refine w_table 587 i_166_45 (by rw [h19]; rfl) ?_
                      exact (k10 h2 h4 h6 h8 h10 h12 h14 h16 h18 h19)
                    · have h20 := h19
                      by_cases h21 : ((M 999 (nI i).toNatClampNeg) &&& 15) = 9
                      · refine w_table 643 i_166_45 (by rw [h21]; rfl) ?_
                        exact (k11 h2 h4 h6 h8 h10 h12 h14 h16 h18 h20 h21)
                      · have h22 := h21
                        by_cases h23 : ((M 999 (nI i).toNatClampNeg) &&& 15) = 10
                        · refine w_table 699 i_166_45 (by rw [h23]; rfl) ?_
                          exact (k12 h2 h4 h6 h8 h10 h12 h14 h16 h18 h20 h22 h23)
                        · have h24 := h23
                          by_cases h25 : ((M 999 (nI i).toNatClampNeg) &&& 15) = 11
                          · refine w_table 755 i_166_45 (by rw [h25]; rfl) ?_
                            exact (k13 h2 h4 h6 h8 h10 h12 h14 h16 h18 h20 h22 h24 h25)
                          · have h26 := h25
                            by_cases h27 : ((M 999 (nI i).toNatClampNeg) &&& 15) = 12
                            · refine w_table 823 i_166_45 (by rw [h27]; rfl) ?_
                              exact (k14 h2 h4 h6 h8 h10 h12 h14 h16 h18 h20 h22 h24 h26 h27)
                            · have h28 := h27
                              by_cases h29 : ((M 999 (nI i).toNatClampNeg) &&& 15) = 13
                              · refine w_table 903 i_166_45 (by rw [h29]; rfl) ?_
                                exact (k15 h2 h4 h6 h8 h10 h12 h14 h16 h18 h20 h22 h24 h26 h28 h29)
                              · have h30 := h29
                                by_cases h31 : ((M 999 (nI i).toNatClampNeg) &&& 15) = 14
                                · refine w_table 998 i_166_45 (by rw [h31]; rfl) ?_
                                  exact (k16 h2 h4 h6 h8 h10 h12 h14 h16 h18 h20 h22 h24 h26 h28 h30 h31)
                                · have h32 := h31
                                  refine w_table 1075 i_166_45 (tg_166_45 h4 h6 h8 h10 h12 h14 h16 h18 h20 h22 h24 h26 h28 h30 h32) ?_
                                  exact (k17 h2 h4 h6 h8 h10 h12 h14 h16 h18 h20 h22 h24 h26 h28 h30 h32)
set_option maxRecDepth 100000 in
theorem i_166_1075 : ins 166 1075 = some (.iinc 5 7, 1078, 5, 0, 0, 7) := rfl
set_option maxRecDepth 100000 in
theorem i_166_1078 : ins 166 1078 = some (.goto (-1050), 1081, 28, 0, 0, 0) := rfl
theorem S166_1075 {Q : Ou → Prop} {M : Mem} {κ : Kp} (hκ : Rd κ)  {i : Nat} (b_i : i ≤ 100000)
    (k1 : RT 166 (28, [.ref 999, .ref 0, .ref 134, .ref 178, .ref 179, .int (nI (i + 7)), UU, UU, UU], [], M, κ) Q)
    : RT 166 (1075, [.ref 999, .ref 0, .ref 134, .ref 178, .ref 179, .int (nI i), UU, UU, UU], [], M, κ) Q := by
  refine w_iincN (n := i) (l1 := [.ref 999, .ref 0, .ref 134, .ref 178, .ref 179, .int (nI (i + 7)), UU, UU, UU]) 7 i_166_1075 rfl rfl ?_
  refine w_goto i_166_1078 ?_
  exact (k1)
set_option maxRecDepth 100000 in
theorem i_166_120 : ins 166 120 = some (.aload_n 1, 121, 1, 0, 0, 0) := rfl
set_option maxRecDepth 100000 in
theorem i_166_121 : ins 166 121 = some (.aload_n 0, 122, 0, 0, 0, 0) := rfl
set_option maxRecDepth 100000 in
theorem i_166_122 : ins 166 122 = some (.iload 5, 124, 5, 0, 0, 0) := rfl
set_option maxRecDepth 100000 in
theorem i_166_124 : ins 166 124 = some (.iconst 1, 125, 0, 0, 0, 1) := rfl
set_option maxRecDepth 100000 in
theorem i_166_125 : ins 166 125 = some (.iadd, 126, 0, 0, 0, 0) := rfl
set_option maxRecDepth 100000 in
theorem i_166_126 : ins 166 126 = some (.iaload, 127, 0, 0, 0, 0) := rfl
set_option maxRecDepth 100000 in
theorem i_166_127 : ins 166 127 = some (.aload_n 0, 128, 0, 0, 0, 0) := rfl
set_option maxRecDepth 100000 in
theorem i_166_128 : ins 166 128 = some (.iload 5, 130, 5, 0, 0, 0) := rfl
set_option maxRecDepth 100000 in
theorem i_166_130 : ins 166 130 = some (.iconst 2, 131, 0, 0, 0, 2) := rfl
set_option maxRecDepth 100000 in
theorem i_166_131 : ins 166 131 = some (.iadd, 132, 0, 0, 0, 0) := rfl
set_option maxRecDepth 100000 in
theorem i_166_132 : ins 166 132 = some (.iaload, 133, 0, 0, 0, 0) := rfl
set_option maxRecDepth 100000 in
theorem i_166_133 : ins 166 133 = some (.aload_n 0, 134, 0, 0, 0, 0) := rfl
set_option maxRecDepth 100000 in
theorem i_166_134 : ins 166 134 = some (.iload 5, 136, 5, 0, 0, 0) := rfl
set_option maxRecDepth 100000 in
theorem i_166_136 : ins 166 136 = some (.iconst 3, 137, 0, 0, 0, 3) := rfl
set_option maxRecDepth 100000 in
theorem i_166_137 : ins 166 137 = some (.iadd, 138, 0, 0, 0, 0) := rfl
set_option maxRecDepth 100000 in
theorem i_166_138 : ins 166 138 = some (.iaload, 139, 0, 0, 0, 0) := rfl
set_option maxRecDepth 100000 in
theorem i_166_139 : ins 166 139 = some (.aload_n 0, 140, 0, 0, 0, 0) := rfl
set_option maxRecDepth 100000 in
theorem i_166_140 : ins 166 140 = some (.iload 5, 142, 5, 0, 0, 0) := rfl
set_option maxRecDepth 100000 in
theorem i_166_142 : ins 166 142 = some (.iconst 4, 143, 0, 0, 0, 4) := rfl
set_option maxRecDepth 100000 in
theorem i_166_143 : ins 166 143 = some (.iadd, 144, 0, 0, 0, 0) := rfl
set_option maxRecDepth 100000 in
theorem i_166_144 : ins 166 144 = some (.iaload, 145, 0, 0, 0, 0) := rfl
set_option maxRecDepth 100000 in
theorem i_166_145 : ins 166 145 = some (.aload_n 0, 146, 0, 0, 0, 0) := rfl
set_option maxRecDepth 100000 in
theorem i_166_146 : ins 166 146 = some (.iload 5, 148, 5, 0, 0, 0) := rfl
set_option maxRecDepth 100000 in
theorem i_166_148 : ins 166 148 = some (.iconst 5, 149, 0, 0, 0, 5) := rfl
set_option maxRecDepth 100000 in
theorem i_166_149 : ins 166 149 = some (.iadd, 150, 0, 0, 0, 0) := rfl
set_option maxRecDepth 100000 in
theorem i_166_150 : ins 166 150 = some (.iaload, 151, 0, 0, 0, 0) := rfl
set_option maxRecDepth 100000 in
theorem i_166_151 : ins 166 151 = some (.aload_n 0, 152, 0, 0, 0, 0) := rfl
set_option maxRecDepth 100000 in
theorem i_166_152 : ins 166 152 = some (.iload 5, 154, 5, 0, 0, 0) := rfl
set_option maxRecDepth 100000 in
theorem i_166_154 : ins 166 154 = some (.bipush 6, 156, 0, 0, 0, 6) := rfl
set_option maxRecDepth 100000 in
theorem i_166_156 : ins 166 156 = some (.iadd, 157, 0, 0, 0, 0) := rfl
set_option maxRecDepth 100000 in
theorem i_166_157 : ins 166 157 = some (.iaload, 158, 0, 0, 0, 0) := rfl
set_option maxRecDepth 100000 in
theorem i_166_158 : ins 166 158 = some (.invokestatic 68, 161, 152, 2, 7, 0) := rfl
theorem S166_120 {Q : Ou → Prop} {M : Mem} {κ : Kp} (hκ : Rd κ)  {i : Nat} (b_i : i ≤ 100000)
    (o1 : vp_in (nI (i + 1)) (kL κ))
    (o2 : vp_in (nI (i + 2)) (kL κ))
    (o3 : vp_in (nI (i + 3)) (kL κ))
    (o4 : vp_in (nI (i + 4)) (kL κ))
    (o5 : vp_in (nI (i + 5)) (kL κ))
    (o6 : vp_in (nI (i + 6)) (kL κ))
    (k1 : RT 152 (0, entL 152 [.ref 0, .int (M 999 (nI (i + 1)).toNatClampNeg), .int (M 999 (nI (i + 2)).toNatClampNeg), .int (M 999 (nI (i + 3)).toNatClampNeg), .int (M 999 (nI (i + 4)).toNatClampNeg), .int (M 999 (nI (i + 5)).toNatClampNeg), .int (M 999 (nI (i + 6)).toNatClampNeg)], [], M, κ) (fun o => ∃ v M1 κ1, o = (.inl v, M1, κ1) ∧ RT 166 (161, [.ref 999, .ref 0, .ref 134, .ref 178, .ref 179, .int (nI i), UU, UU, UU], v.toList ++ [], M1, κ1) Q))
    : RT 166 (120, [.ref 999, .ref 0, .ref 134, .ref 178, .ref 179, .int (nI i), UU, UU, UU], [], M, κ) Q := by
  refine w_load i_166_120 rfl rfl ?_
  refine w_load i_166_121 rfl rfl ?_
  refine w_load i_166_122 rfl rfl ?_
  refine w_push i_166_124 rfl ?_
  refine w_bin (w := (nI (i + 1))) i_166_125 rfl (nI_add i 1) ?_
  refine w_sald i_166_126 (o1) ?_
  refine w_load i_166_127 rfl rfl ?_
  refine w_load i_166_128 rfl rfl ?_
  refine w_push i_166_130 rfl ?_
  refine w_bin (w := (nI (i + 2))) i_166_131 rfl (nI_add i 2) ?_
  refine w_sald i_166_132 (o2) ?_
  refine w_load i_166_133 rfl rfl ?_
  refine w_load i_166_134 rfl rfl ?_
  refine w_push i_166_136 rfl ?_
  refine w_bin (w := (nI (i + 3))) i_166_137 rfl (nI_add i 3) ?_
  refine w_sald i_166_138 (o3) ?_
  refine w_load i_166_139 rfl rfl ?_
  refine w_load i_166_140 rfl rfl ?_
  refine w_push i_166_142 rfl ?_
  refine w_bin (w := (nI (i + 4))) i_166_143 rfl (nI_add i 4) ?_
  refine w_sald i_166_144 (o4) ?_
  refine w_load i_166_145 rfl rfl ?_
  refine w_load i_166_146 rfl rfl ?_
  refine w_push i_166_148 rfl ?_
  refine w_bin (w := (nI (i + 5))) i_166_149 rfl (nI_add i 5) ?_
  refine w_sald i_166_150 (o5) ?_
  refine w_load i_166_151 rfl rfl ?_
  refine w_load i_166_152 rfl rfl ?_
  refine w_push i_166_154 rfl ?_
  refine w_bin (w := (nI (i + 6))) i_166_156 rfl (nI_add i 6) ?_
  refine w_sald i_166_157 (o6) ?_
  exact w_callSI i_166_158 ⟨by decide, by decide, by decide, rfl, rfl⟩ (av := [.ref 0, .int (M 999 (nI (i + 1)).toNatClampNeg), .int (M 999 (nI (i + 2)).toNatClampNeg), .int (M 999 (nI (i + 3)).toNatClampNeg), .int (M 999 (nI (i + 4)).toNatClampNeg), .int (M 999 (nI (i + 5)).toNatClampNeg), .int (M 999 (nI (i + 6)).toNatClampNeg)]) (rest := []) rfl rfl (Nat.le_of_ble_eq_true rfl) (k1)
set_option maxRecDepth 100000 in
theorem i_166_218 : ins 166 218 = some (.aload_n 1, 219, 1, 0, 0, 0) := rfl
set_option maxRecDepth 100000 in
theorem i_166_219 : ins 166 219 = some (.aload_n 0, 220, 0, 0, 0, 0) := rfl
set_option maxRecDepth 100000 in
theorem i_166_220 : ins 166 220 = some (.iload 5, 222, 5, 0, 0, 0) := rfl
set_option maxRecDepth 100000 in
theorem i_166_222 : ins 166 222 = some (.iconst 1, 223, 0, 0, 0, 1) := rfl
set_option maxRecDepth 100000 in
theorem i_166_223 : ins 166 223 = some (.iadd, 224, 0, 0, 0, 0) := rfl
set_option maxRecDepth 100000 in
theorem i_166_224 : ins 166 224 = some (.iaload, 225, 0, 0, 0, 0) := rfl
set_option maxRecDepth 100000 in
theorem i_166_225 : ins 166 225 = some (.aload_n 0, 226, 0, 0, 0, 0) := rfl
set_option maxRecDepth 100000 in
theorem i_166_226 : ins 166 226 = some (.iload 5, 228, 5, 0, 0, 0) := rfl
set_option maxRecDepth 100000 in
theorem i_166_228 : ins 166 228 = some (.iconst 2, 229, 0, 0, 0, 2) := rfl
set_option maxRecDepth 100000 in
theorem i_166_229 : ins 166 229 = some (.iadd, 230, 0, 0, 0, 0) := rfl
set_option maxRecDepth 100000 in
theorem i_166_230 : ins 166 230 = some (.iaload, 231, 0, 0, 0, 0) := rfl
set_option maxRecDepth 100000 in
theorem i_166_231 : ins 166 231 = some (.aload_n 0, 232, 0, 0, 0, 0) := rfl
set_option maxRecDepth 100000 in
theorem i_166_232 : ins 166 232 = some (.iload 5, 234, 5, 0, 0, 0) := rfl
set_option maxRecDepth 100000 in
theorem i_166_234 : ins 166 234 = some (.iconst 3, 235, 0, 0, 0, 3) := rfl
set_option maxRecDepth 100000 in
theorem i_166_235 : ins 166 235 = some (.iadd, 236, 0, 0, 0, 0) := rfl
set_option maxRecDepth 100000 in
theorem i_166_236 : ins 166 236 = some (.iaload, 237, 0, 0, 0, 0) := rfl
set_option maxRecDepth 100000 in
theorem i_166_237 : ins 166 237 = some (.aload_n 0, 238, 0, 0, 0, 0) := rfl
set_option maxRecDepth 100000 in
theorem i_166_238 : ins 166 238 = some (.iload 5, 240, 5, 0, 0, 0) := rfl
set_option maxRecDepth 100000 in
theorem i_166_240 : ins 166 240 = some (.iconst 4, 241, 0, 0, 0, 4) := rfl
set_option maxRecDepth 100000 in
theorem i_166_241 : ins 166 241 = some (.iadd, 242, 0, 0, 0, 0) := rfl
set_option maxRecDepth 100000 in
theorem i_166_242 : ins 166 242 = some (.iaload, 243, 0, 0, 0, 0) := rfl
set_option maxRecDepth 100000 in
theorem i_166_243 : ins 166 243 = some (.aload_n 3, 244, 3, 0, 0, 0) := rfl
set_option maxRecDepth 100000 in
theorem i_166_244 : ins 166 244 = some (.invokestatic 77, 247, 153, 2, 6, 0) := rfl
theorem S166_218 {Q : Ou → Prop} {M : Mem} {κ : Kp} (hκ : Rd κ)  {i : Nat} (b_i : i ≤ 100000)
    (o1 : vp_in (nI (i + 1)) (kL κ))
    (o2 : vp_in (nI (i + 2)) (kL κ))
    (o3 : vp_in (nI (i + 3)) (kL κ))
    (o4 : vp_in (nI (i + 4)) (kL κ))
    (k1 : RT 153 (0, entL 153 [.ref 0, .int (M 999 (nI (i + 1)).toNatClampNeg), .int (M 999 (nI (i + 2)).toNatClampNeg), .int (M 999 (nI (i + 3)).toNatClampNeg), .int (M 999 (nI (i + 4)).toNatClampNeg), .ref 178], [], M, κ) (fun o => ∃ v M1 κ1, o = (.inl v, M1, κ1) ∧ RT 166 (247, [.ref 999, .ref 0, .ref 134, .ref 178, .ref 179, .int (nI i), UU, UU, UU], v.toList ++ [], M1, κ1) Q))
    : RT 166 (218, [.ref 999, .ref 0, .ref 134, .ref 178, .ref 179, .int (nI i), UU, UU, UU], [], M, κ) Q := by
  refine w_load i_166_218 rfl rfl ?_
  refine w_load i_166_219 rfl rfl ?_
  refine w_load i_166_220 rfl rfl ?_
  refine w_push i_166_222 rfl ?_
  refine w_bin (w := (nI (i + 1))) i_166_223 rfl (nI_add i 1) ?_
  refine w_sald i_166_224 (o1) ?_
  refine w_load i_166_225 rfl rfl ?_
  refine w_load i_166_226 rfl rfl ?_
  refine w_push i_166_228 rfl ?_
  refine w_bin (w := (nI (i + 2))) i_166_229 rfl (nI_add i 2) ?_
  refine w_sald i_166_230 (o2) ?_
  refine w_load i_166_231 rfl rfl ?_
  refine w_load i_166_232 rfl rfl ?_
  refine w_push i_166_234 rfl ?_
  refine w_bin (w := (nI (i + 3))) i_166_235 rfl (nI_add i 3) ?_
  refine w_sald i_166_236 (o3) ?_
  refine w_load i_166_237 rfl rfl ?_
  refine w_load i_166_238 rfl rfl ?_
  refine w_push i_166_240 rfl ?_
  refine w_bin (w := (nI (i + 4))) i_166_241 rfl (nI_add i 4) ?_
  refine w_sald i_166_242 (o4) ?_
  refine w_load i_166_243 rfl rfl ?_
  exact w_callSI i_166_244 ⟨by decide, by decide, by decide, rfl, rfl⟩ (av := [.ref 0, .int (M 999 (nI (i + 1)).toNatClampNeg), .int (M 999 (nI (i + 2)).toNatClampNeg), .int (M 999 (nI (i + 3)).toNatClampNeg), .int (M 999 (nI (i + 4)).toNatClampNeg), .ref 178]) (rest := []) rfl rfl (Nat.le_of_ble_eq_true rfl) (k1)
set_option maxRecDepth 100000 in
theorem i_166_310 : ins 166 310 = some (.aload_n 1, 311, 1, 0, 0, 0) := rfl
set_option maxRecDepth 100000 in
theorem i_166_311 : ins 166 311 = some (.aload_n 0, 312, 0, 0, 0, 0) := rfl
set_option maxRecDepth 100000 in
theorem i_166_312 : ins 166 312 = some (.iload 5, 314, 5, 0, 0, 0) := rfl
set_option maxRecDepth 100000 in
theorem i_166_314 : ins 166 314 = some (.iconst 1, 315, 0, 0, 0, 1) := rfl
set_option maxRecDepth 100000 in
theorem i_166_315 : ins 166 315 = some (.iadd, 316, 0, 0, 0, 0) := rfl
set_option maxRecDepth 100000 in
theorem i_166_316 : ins 166 316 = some (.iaload, 317, 0, 0, 0, 0) := rfl
set_option maxRecDepth 100000 in
theorem i_166_317 : ins 166 317 = some (.aload_n 0, 318, 0, 0, 0, 0) := rfl
set_option maxRecDepth 100000 in
theorem i_166_318 : ins 166 318 = some (.iload 5, 320, 5, 0, 0, 0) := rfl
set_option maxRecDepth 100000 in
theorem i_166_320 : ins 166 320 = some (.iconst 2, 321, 0, 0, 0, 2) := rfl
set_option maxRecDepth 100000 in
theorem i_166_321 : ins 166 321 = some (.iadd, 322, 0, 0, 0, 0) := rfl
set_option maxRecDepth 100000 in
theorem i_166_322 : ins 166 322 = some (.iaload, 323, 0, 0, 0, 0) := rfl
set_option maxRecDepth 100000 in
theorem i_166_323 : ins 166 323 = some (.aload_n 0, 324, 0, 0, 0, 0) := rfl
set_option maxRecDepth 100000 in
theorem i_166_324 : ins 166 324 = some (.iload 5, 326, 5, 0, 0, 0) := rfl
set_option maxRecDepth 100000 in
theorem i_166_326 : ins 166 326 = some (.iconst 3, 327, 0, 0, 0, 3) := rfl
set_option maxRecDepth 100000 in
theorem i_166_327 : ins 166 327 = some (.iadd, 328, 0, 0, 0, 0) := rfl
set_option maxRecDepth 100000 in
theorem i_166_328 : ins 166 328 = some (.iaload, 329, 0, 0, 0, 0) := rfl
set_option maxRecDepth 100000 in
theorem i_166_329 : ins 166 329 = some (.aload_n 0, 330, 0, 0, 0, 0) := rfl
set_option maxRecDepth 100000 in
theorem i_166_330 : ins 166 330 = some (.iload 5, 332, 5, 0, 0, 0) := rfl
set_option maxRecDepth 100000 in
theorem i_166_332 : ins 166 332 = some (.iconst 4, 333, 0, 0, 0, 4) := rfl
set_option maxRecDepth 100000 in
theorem i_166_333 : ins 166 333 = some (.iadd, 334, 0, 0, 0, 0) := rfl
set_option maxRecDepth 100000 in
theorem i_166_334 : ins 166 334 = some (.iaload, 335, 0, 0, 0, 0) := rfl
set_option maxRecDepth 100000 in
theorem i_166_335 : ins 166 335 = some (.aload_n 0, 336, 0, 0, 0, 0) := rfl
set_option maxRecDepth 100000 in
theorem i_166_336 : ins 166 336 = some (.iload 5, 338, 5, 0, 0, 0) := rfl
set_option maxRecDepth 100000 in
theorem i_166_338 : ins 166 338 = some (.iconst 5, 339, 0, 0, 0, 5) := rfl
set_option maxRecDepth 100000 in
theorem i_166_339 : ins 166 339 = some (.iadd, 340, 0, 0, 0, 0) := rfl
set_option maxRecDepth 100000 in
theorem i_166_340 : ins 166 340 = some (.iaload, 341, 0, 0, 0, 0) := rfl
set_option maxRecDepth 100000 in
theorem i_166_341 : ins 166 341 = some (.aload_n 0, 342, 0, 0, 0, 0) := rfl
set_option maxRecDepth 100000 in
theorem i_166_342 : ins 166 342 = some (.iload 5, 344, 5, 0, 0, 0) := rfl
set_option maxRecDepth 100000 in
theorem i_166_344 : ins 166 344 = some (.bipush 6, 346, 0, 0, 0, 6) := rfl
set_option maxRecDepth 100000 in
theorem i_166_346 : ins 166 346 = some (.iadd, 347, 0, 0, 0, 0) := rfl
set_option maxRecDepth 100000 in
theorem i_166_347 : ins 166 347 = some (.iaload, 348, 0, 0, 0, 0) := rfl
set_option maxRecDepth 100000 in
theorem i_166_348 : ins 166 348 = some (.aload_n 3, 349, 3, 0, 0, 0) := rfl
set_option maxRecDepth 100000 in
theorem i_166_349 : ins 166 349 = some (.invokestatic 81, 352, 154, 2, 8, 0) := rfl
theorem S166_310 {Q : Ou → Prop} {M : Mem} {κ : Kp} (hκ : Rd κ)  {i : Nat} (b_i : i ≤ 100000)
    (o1 : vp_in (nI (i + 1)) (kL κ))
    (o2 : vp_in (nI (i + 2)) (kL κ))
    (o3 : vp_in (nI (i + 3)) (kL κ))
    (o4 : vp_in (nI (i + 4)) (kL κ))
    (o5 : vp_in (nI (i + 5)) (kL κ))
    (o6 : vp_in (nI (i + 6)) (kL κ))
    (k1 : RT 154 (0, entL 154 [.ref 0, .int (M 999 (nI (i + 1)).toNatClampNeg), .int (M 999 (nI (i + 2)).toNatClampNeg), .int (M 999 (nI (i + 3)).toNatClampNeg), .int (M 999 (nI (i + 4)).toNatClampNeg), .int (M 999 (nI (i + 5)).toNatClampNeg), .int (M 999 (nI (i + 6)).toNatClampNeg), .ref 178], [], M, κ) (fun o => ∃ v M1 κ1, o = (.inl v, M1, κ1) ∧ RT 166 (352, [.ref 999, .ref 0, .ref 134, .ref 178, .ref 179, .int (nI i), UU, UU, UU], v.toList ++ [], M1, κ1) Q))
    : RT 166 (310, [.ref 999, .ref 0, .ref 134, .ref 178, .ref 179, .int (nI i), UU, UU, UU], [], M, κ) Q := by
  refine w_load i_166_310 rfl rfl ?_
  refine w_load i_166_311 rfl rfl ?_
  refine w_load i_166_312 rfl rfl ?_
  refine w_push i_166_314 rfl ?_
  refine w_bin (w := (nI (i + 1))) i_166_315 rfl (nI_add i 1) ?_
  refine w_sald i_166_316 (o1) ?_
  refine w_load i_166_317 rfl rfl ?_
  refine w_load i_166_318 rfl rfl ?_
  refine w_push i_166_320 rfl ?_
  refine w_bin (w := (nI (i + 2))) i_166_321 rfl (nI_add i 2) ?_
  refine w_sald i_166_322 (o2) ?_
  refine w_load i_166_323 rfl rfl ?_
  refine w_load i_166_324 rfl rfl ?_
  refine w_push i_166_326 rfl ?_
  refine w_bin (w := (nI (i + 3))) i_166_327 rfl (nI_add i 3) ?_
  refine w_sald i_166_328 (o3) ?_
  refine w_load i_166_329 rfl rfl ?_
  refine w_load i_166_330 rfl rfl ?_
  refine w_push i_166_332 rfl ?_
  refine w_bin (w := (nI (i + 4))) i_166_333 rfl (nI_add i 4) ?_
  refine w_sald i_166_334 (o4) ?_
  refine w_load i_166_335 rfl rfl ?_
  refine w_load i_166_336 rfl rfl ?_
  refine w_push i_166_338 rfl ?_
  refine w_bin (w := (nI (i + 5))) i_166_339 rfl (nI_add i 5) ?_
  refine w_sald i_166_340 (o5) ?_
  refine w_load i_166_341 rfl rfl ?_
  refine w_load i_166_342 rfl rfl ?_
  refine w_push i_166_344 rfl ?_
  refine w_bin (w := (nI (i + 6))) i_166_346 rfl (nI_add i 6) ?_
  refine w_sald i_166_347 (o6) ?_
  refine w_load i_166_348 rfl rfl ?_
  exact w_callSI i_166_349 ⟨by decide, by decide, by decide, rfl, rfl⟩ (av := [.ref 0, .int (M 999 (nI (i + 1)).toNatClampNeg), .int (M 999 (nI (i + 2)).toNatClampNeg), .int (M 999 (nI (i + 3)).toNatClampNeg), .int (M 999 (nI (i + 4)).toNatClampNeg), .int (M 999 (nI (i + 5)).toNatClampNeg), .int (M 999 (nI (i + 6)).toNatClampNeg), .ref 178]) (rest := []) rfl rfl (Nat.le_of_ble_eq_true rfl) (k1)
set_option maxRecDepth 100000 in
theorem i_166_428 : ins 166 428 = some (.aload_n 1, 429, 1, 0, 0, 0) := rfl
set_option maxRecDepth 100000 in
theorem i_166_429 : ins 166 429 = some (.invokevirtual 85, 432, 68, 0, 1, 0) := rfl
theorem S166_428 {Q : Ou → Prop} {M : Mem} {κ : Kp} (hκ : Rd κ)  {i : Nat} (b_i : i ≤ 100000)
    (k1 : RT 68 (0, entL 68 [.ref 0], [], M, κ) (fun o => ∃ v M1 κ1, o = (.inl v, M1, κ1) ∧ RT 166 (432, [.ref 999, .ref 0, .ref 134, .ref 178, .ref 179, .int (nI i), UU, UU, UU], v.toList ++ [], M1, κ1) Q))
    : RT 166 (428, [.ref 999, .ref 0, .ref 134, .ref 178, .ref 179, .int (nI i), UU, UU, UU], [], M, κ) Q := by
  refine w_load i_166_428 rfl rfl ?_
  exact w_callVI (i := _) i_166_429 ⟨by decide, by decide, by decide, rfl⟩ hκ (⟨rfl, by decide⟩ : isOb 0 6) (av := []) (rest := []) rfl rfl (Nat.le_of_ble_eq_true rfl) (k1)
set_option maxRecDepth 100000 in
theorem i_166_439 : ins 166 439 = some (.aload_n 1, 440, 1, 0, 0, 0) := rfl
set_option maxRecDepth 100000 in
theorem i_166_440 : ins 166 440 = some (.aload_n 0, 441, 0, 0, 0, 0) := rfl
set_option maxRecDepth 100000 in
theorem i_166_441 : ins 166 441 = some (.iload 5, 443, 5, 0, 0, 0) := rfl
set_option maxRecDepth 100000 in
theorem i_166_443 : ins 166 443 = some (.iconst 1, 444, 0, 0, 0, 1) := rfl
set_option maxRecDepth 100000 in
theorem i_166_444 : ins 166 444 = some (.iadd, 445, 0, 0, 0, 0) := rfl
set_option maxRecDepth 100000 in
theorem i_166_445 : ins 166 445 = some (.iaload, 446, 0, 0, 0, 0) := rfl
set_option maxRecDepth 100000 in
theorem i_166_446 : ins 166 446 = some (.aload_n 0, 447, 0, 0, 0, 0) := rfl
set_option maxRecDepth 100000 in
theorem i_166_447 : ins 166 447 = some (.iload 5, 449, 5, 0, 0, 0) := rfl
set_option maxRecDepth 100000 in
theorem i_166_449 : ins 166 449 = some (.iconst 2, 450, 0, 0, 0, 2) := rfl
set_option maxRecDepth 100000 in
theorem i_166_450 : ins 166 450 = some (.iadd, 451, 0, 0, 0, 0) := rfl
set_option maxRecDepth 100000 in
theorem i_166_451 : ins 166 451 = some (.iaload, 452, 0, 0, 0, 0) := rfl
set_option maxRecDepth 100000 in
theorem i_166_452 : ins 166 452 = some (.invokevirtual 89, 455, 69, 0, 3, 0) := rfl
theorem S166_439 {Q : Ou → Prop} {M : Mem} {κ : Kp} (hκ : Rd κ)  {i : Nat} (b_i : i ≤ 100000)
    (o1 : vp_in (nI (i + 1)) (kL κ))
    (o2 : vp_in (nI (i + 2)) (kL κ))
    (k1 : RT 69 (0, entL 69 [.ref 0, .int (M 999 (nI (i + 1)).toNatClampNeg), .int (M 999 (nI (i + 2)).toNatClampNeg)], [], M, κ) (fun o => ∃ v M1 κ1, o = (.inl v, M1, κ1) ∧ RT 166 (455, [.ref 999, .ref 0, .ref 134, .ref 178, .ref 179, .int (nI i), UU, UU, UU], v.toList ++ [], M1, κ1) Q))
    : RT 166 (439, [.ref 999, .ref 0, .ref 134, .ref 178, .ref 179, .int (nI i), UU, UU, UU], [], M, κ) Q := by
  refine w_load i_166_439 rfl rfl ?_
  refine w_load i_166_440 rfl rfl ?_
  refine w_load i_166_441 rfl rfl ?_
  refine w_push i_166_443 rfl ?_
  refine w_bin (w := (nI (i + 1))) i_166_444 rfl (nI_add i 1) ?_
  refine w_sald i_166_445 (o1) ?_
  refine w_load i_166_446 rfl rfl ?_
  refine w_load i_166_447 rfl rfl ?_
  refine w_push i_166_449 rfl ?_
  refine w_bin (w := (nI (i + 2))) i_166_450 rfl (nI_add i 2) ?_
  refine w_sald i_166_451 (o2) ?_
  exact w_callVI (i := _) i_166_452 ⟨by decide, by decide, by decide, rfl⟩ hκ (⟨rfl, by decide⟩ : isOb 0 6) (av := [.int (M 999 (nI (i + 1)).toNatClampNeg), .int (M 999 (nI (i + 2)).toNatClampNeg)]) (rest := []) rfl rfl (Nat.le_of_ble_eq_true rfl) (k1)
set_option maxRecDepth 100000 in
theorem i_166_474 : ins 166 474 = some (.aload_n 1, 475, 1, 0, 0, 0) := rfl
set_option maxRecDepth 100000 in
theorem i_166_475 : ins 166 475 = some (.aload_n 0, 476, 0, 0, 0, 0) := rfl
set_option maxRecDepth 100000 in
theorem i_166_476 : ins 166 476 = some (.iload 5, 478, 5, 0, 0, 0) := rfl
set_option maxRecDepth 100000 in
theorem i_166_478 : ins 166 478 = some (.iconst 1, 479, 0, 0, 0, 1) := rfl
set_option maxRecDepth 100000 in
theorem i_166_479 : ins 166 479 = some (.iadd, 480, 0, 0, 0, 0) := rfl
set_option maxRecDepth 100000 in
theorem i_166_480 : ins 166 480 = some (.iaload, 481, 0, 0, 0, 0) := rfl
set_option maxRecDepth 100000 in
theorem i_166_481 : ins 166 481 = some (.invokevirtual 94, 484, 70, 0, 2, 0) := rfl
theorem S166_474 {Q : Ou → Prop} {M : Mem} {κ : Kp} (hκ : Rd κ)  {i : Nat} (b_i : i ≤ 100000)
    (o1 : vp_in (nI (i + 1)) (kL κ))
    (k1 : RT 70 (0, entL 70 [.ref 0, .int (M 999 (nI (i + 1)).toNatClampNeg)], [], M, κ) (fun o => ∃ v M1 κ1, o = (.inl v, M1, κ1) ∧ RT 166 (484, [.ref 999, .ref 0, .ref 134, .ref 178, .ref 179, .int (nI i), UU, UU, UU], v.toList ++ [], M1, κ1) Q))
    : RT 166 (474, [.ref 999, .ref 0, .ref 134, .ref 178, .ref 179, .int (nI i), UU, UU, UU], [], M, κ) Q := by
  refine w_load i_166_474 rfl rfl ?_
  refine w_load i_166_475 rfl rfl ?_
  refine w_load i_166_476 rfl rfl ?_
  refine w_push i_166_478 rfl ?_
  refine w_bin (w := (nI (i + 1))) i_166_479 rfl (nI_add i 1) ?_
  refine w_sald i_166_480 (o1) ?_
  exact w_callVI (i := _) i_166_481 ⟨by decide, by decide, by decide, rfl⟩ hκ (⟨rfl, by decide⟩ : isOb 0 6) (av := [.int (M 999 (nI (i + 1)).toNatClampNeg)]) (rest := []) rfl rfl (Nat.le_of_ble_eq_true rfl) (k1)
set_option maxRecDepth 100000 in
theorem i_166_499 : ins 166 499 = some (.aload_n 1, 500, 1, 0, 0, 0) := rfl
set_option maxRecDepth 100000 in
theorem i_166_500 : ins 166 500 = some (.aload_n 3, 501, 3, 0, 0, 0) := rfl
set_option maxRecDepth 100000 in
theorem i_166_501 : ins 166 501 = some (.invokestatic 98, 504, 155, 2, 2, 0) := rfl
theorem S166_499 {Q : Ou → Prop} {M : Mem} {κ : Kp} (hκ : Rd κ)  {i : Nat} (b_i : i ≤ 100000)
    (k1 : RT 155 (0, entL 155 [.ref 0, .ref 178], [], M, κ) (fun o => ∃ v M1 κ1, o = (.inl v, M1, κ1) ∧ RT 166 (504, [.ref 999, .ref 0, .ref 134, .ref 178, .ref 179, .int (nI i), UU, UU, UU], v.toList ++ [], M1, κ1) Q))
    : RT 166 (499, [.ref 999, .ref 0, .ref 134, .ref 178, .ref 179, .int (nI i), UU, UU, UU], [], M, κ) Q := by
  refine w_load i_166_499 rfl rfl ?_
  refine w_load i_166_500 rfl rfl ?_
  exact w_callSI i_166_501 ⟨by decide, by decide, by decide, rfl, rfl⟩ (av := [.ref 0, .ref 178]) (rest := []) rfl rfl (Nat.le_of_ble_eq_true rfl) (k1)
set_option maxRecDepth 100000 in
theorem i_166_543 : ins 166 543 = some (.aload_n 1, 544, 1, 0, 0, 0) := rfl
set_option maxRecDepth 100000 in
theorem i_166_544 : ins 166 544 = some (.aload_n 3, 545, 3, 0, 0, 0) := rfl
set_option maxRecDepth 100000 in
theorem i_166_545 : ins 166 545 = some (.invokestatic 102, 548, 156, 2, 2, 0) := rfl
theorem S166_543 {Q : Ou → Prop} {M : Mem} {κ : Kp} (hκ : Rd κ)  {i : Nat} (b_i : i ≤ 100000)
    (k1 : RT 156 (0, entL 156 [.ref 0, .ref 178], [], M, κ) (fun o => ∃ v M1 κ1, o = (.inl v, M1, κ1) ∧ RT 166 (548, [.ref 999, .ref 0, .ref 134, .ref 178, .ref 179, .int (nI i), UU, UU, UU], v.toList ++ [], M1, κ1) Q))
    : RT 166 (543, [.ref 999, .ref 0, .ref 134, .ref 178, .ref 179, .int (nI i), UU, UU, UU], [], M, κ) Q := by
  refine w_load i_166_543 rfl rfl ?_
  refine w_load i_166_544 rfl rfl ?_
  exact w_callSI i_166_545 ⟨by decide, by decide, by decide, rfl, rfl⟩ (av := [.ref 0, .ref 178]) (rest := []) rfl rfl (Nat.le_of_ble_eq_true rfl) (k1)
set_option maxRecDepth 100000 in
theorem i_166_587 : ins 166 587 = some (.aload_n 1, 588, 1, 0, 0, 0) := rfl
set_option maxRecDepth 100000 in
theorem i_166_588 : ins 166 588 = some (.aload_n 0, 589, 0, 0, 0, 0) := rfl
set_option maxRecDepth 100000 in
theorem i_166_589 : ins 166 589 = some (.iload 5, 591, 5, 0, 0, 0) := rfl
set_option maxRecDepth 100000 in
theorem i_166_591 : ins 166 591 = some (.iconst 1, 592, 0, 0, 0, 1) := rfl
set_option maxRecDepth 100000 in
theorem i_166_592 : ins 166 592 = some (.iadd, 593, 0, 0, 0, 0) := rfl
set_option maxRecDepth 100000 in
theorem i_166_593 : ins 166 593 = some (.iaload, 594, 0, 0, 0, 0) := rfl
set_option maxRecDepth 100000 in
theorem i_166_594 : ins 166 594 = some (.aload_n 3, 595, 3, 0, 0, 0) := rfl
set_option maxRecDepth 100000 in
theorem i_166_595 : ins 166 595 = some (.invokestatic 105, 598, 157, 2, 3, 0) := rfl
theorem S166_587 {Q : Ou → Prop} {M : Mem} {κ : Kp} (hκ : Rd κ)  {i : Nat} (b_i : i ≤ 100000)
    (o1 : vp_in (nI (i + 1)) (kL κ))
    (k1 : RT 157 (0, entL 157 [.ref 0, .int (M 999 (nI (i + 1)).toNatClampNeg), .ref 178], [], M, κ) (fun o => ∃ v M1 κ1, o = (.inl v, M1, κ1) ∧ RT 166 (598, [.ref 999, .ref 0, .ref 134, .ref 178, .ref 179, .int (nI i), UU, UU, UU], v.toList ++ [], M1, κ1) Q))
    : RT 166 (587, [.ref 999, .ref 0, .ref 134, .ref 178, .ref 179, .int (nI i), UU, UU, UU], [], M, κ) Q := by
  refine w_load i_166_587 rfl rfl ?_
  refine w_load i_166_588 rfl rfl ?_
  refine w_load i_166_589 rfl rfl ?_
  refine w_push i_166_591 rfl ?_
  refine w_bin (w := (nI (i + 1))) i_166_592 rfl (nI_add i 1) ?_
  refine w_sald i_166_593 (o1) ?_
  refine w_load i_166_594 rfl rfl ?_
  exact w_callSI i_166_595 ⟨by decide, by decide, by decide, rfl, rfl⟩ (av := [.ref 0, .int (M 999 (nI (i + 1)).toNatClampNeg), .ref 178]) (rest := []) rfl rfl (Nat.le_of_ble_eq_true rfl) (k1)
set_option maxRecDepth 100000 in
theorem i_166_643 : ins 166 643 = some (.aload_n 1, 644, 1, 0, 0, 0) := rfl
set_option maxRecDepth 100000 in
theorem i_166_644 : ins 166 644 = some (.aload_n 0, 645, 0, 0, 0, 0) := rfl
set_option maxRecDepth 100000 in
theorem i_166_645 : ins 166 645 = some (.iload 5, 647, 5, 0, 0, 0) := rfl
set_option maxRecDepth 100000 in
theorem i_166_647 : ins 166 647 = some (.iconst 1, 648, 0, 0, 0, 1) := rfl
set_option maxRecDepth 100000 in
theorem i_166_648 : ins 166 648 = some (.iadd, 649, 0, 0, 0, 0) := rfl
set_option maxRecDepth 100000 in
theorem i_166_649 : ins 166 649 = some (.iaload, 650, 0, 0, 0, 0) := rfl
set_option maxRecDepth 100000 in
theorem i_166_650 : ins 166 650 = some (.aload_n 3, 651, 3, 0, 0, 0) := rfl
set_option maxRecDepth 100000 in
theorem i_166_651 : ins 166 651 = some (.invokestatic 109, 654, 158, 2, 3, 0) := rfl
theorem S166_643 {Q : Ou → Prop} {M : Mem} {κ : Kp} (hκ : Rd κ)  {i : Nat} (b_i : i ≤ 100000)
    (o1 : vp_in (nI (i + 1)) (kL κ))
    (k1 : RT 158 (0, entL 158 [.ref 0, .int (M 999 (nI (i + 1)).toNatClampNeg), .ref 178], [], M, κ) (fun o => ∃ v M1 κ1, o = (.inl v, M1, κ1) ∧ RT 166 (654, [.ref 999, .ref 0, .ref 134, .ref 178, .ref 179, .int (nI i), UU, UU, UU], v.toList ++ [], M1, κ1) Q))
    : RT 166 (643, [.ref 999, .ref 0, .ref 134, .ref 178, .ref 179, .int (nI i), UU, UU, UU], [], M, κ) Q := by
  refine w_load i_166_643 rfl rfl ?_
  refine w_load i_166_644 rfl rfl ?_
  refine w_load i_166_645 rfl rfl ?_
  refine w_push i_166_647 rfl ?_
  refine w_bin (w := (nI (i + 1))) i_166_648 rfl (nI_add i 1) ?_
  refine w_sald i_166_649 (o1) ?_
  refine w_load i_166_650 rfl rfl ?_
  exact w_callSI i_166_651 ⟨by decide, by decide, by decide, rfl, rfl⟩ (av := [.ref 0, .int (M 999 (nI (i + 1)).toNatClampNeg), .ref 178]) (rest := []) rfl rfl (Nat.le_of_ble_eq_true rfl) (k1)
set_option maxRecDepth 100000 in
theorem i_166_699 : ins 166 699 = some (.aload_n 1, 700, 1, 0, 0, 0) := rfl
set_option maxRecDepth 100000 in
theorem i_166_700 : ins 166 700 = some (.aload_n 0, 701, 0, 0, 0, 0) := rfl
set_option maxRecDepth 100000 in
theorem i_166_701 : ins 166 701 = some (.iload 5, 703, 5, 0, 0, 0) := rfl
set_option maxRecDepth 100000 in
theorem i_166_703 : ins 166 703 = some (.iconst 1, 704, 0, 0, 0, 1) := rfl
set_option maxRecDepth 100000 in
theorem i_166_704 : ins 166 704 = some (.iadd, 705, 0, 0, 0, 0) := rfl
set_option maxRecDepth 100000 in
theorem i_166_705 : ins 166 705 = some (.iaload, 706, 0, 0, 0, 0) := rfl
set_option maxRecDepth 100000 in
theorem i_166_706 : ins 166 706 = some (.aload_n 3, 707, 3, 0, 0, 0) := rfl
set_option maxRecDepth 100000 in
theorem i_166_707 : ins 166 707 = some (.invokestatic 112, 710, 159, 2, 3, 0) := rfl
theorem S166_699 {Q : Ou → Prop} {M : Mem} {κ : Kp} (hκ : Rd κ)  {i : Nat} (b_i : i ≤ 100000)
    (o1 : vp_in (nI (i + 1)) (kL κ))
    (k1 : RT 159 (0, entL 159 [.ref 0, .int (M 999 (nI (i + 1)).toNatClampNeg), .ref 178], [], M, κ) (fun o => ∃ v M1 κ1, o = (.inl v, M1, κ1) ∧ RT 166 (710, [.ref 999, .ref 0, .ref 134, .ref 178, .ref 179, .int (nI i), UU, UU, UU], v.toList ++ [], M1, κ1) Q))
    : RT 166 (699, [.ref 999, .ref 0, .ref 134, .ref 178, .ref 179, .int (nI i), UU, UU, UU], [], M, κ) Q := by
  refine w_load i_166_699 rfl rfl ?_
  refine w_load i_166_700 rfl rfl ?_
  refine w_load i_166_701 rfl rfl ?_
  refine w_push i_166_703 rfl ?_
  refine w_bin (w := (nI (i + 1))) i_166_704 rfl (nI_add i 1) ?_
  refine w_sald i_166_705 (o1) ?_
  refine w_load i_166_706 rfl rfl ?_
  exact w_callSI i_166_707 ⟨by decide, by decide, by decide, rfl, rfl⟩ (av := [.ref 0, .int (M 999 (nI (i + 1)).toNatClampNeg), .ref 178]) (rest := []) rfl rfl (Nat.le_of_ble_eq_true rfl) (k1)
set_option maxRecDepth 100000 in
theorem i_166_755 : ins 166 755 = some (.aload_n 1, 756, 1, 0, 0, 0) := rfl
set_option maxRecDepth 100000 in
theorem i_166_756 : ins 166 756 = some (.aload_n 0, 757, 0, 0, 0, 0) := rfl
set_option maxRecDepth 100000 in
theorem i_166_757 : ins 166 757 = some (.iload 5, 759, 5, 0, 0, 0) := rfl
set_option maxRecDepth 100000 in
theorem i_166_759 : ins 166 759 = some (.iconst 1, 760, 0, 0, 0, 1) := rfl
set_option maxRecDepth 100000 in
theorem i_166_760 : ins 166 760 = some (.iadd, 761, 0, 0, 0, 0) := rfl
set_option maxRecDepth 100000 in
theorem i_166_761 : ins 166 761 = some (.iaload, 762, 0, 0, 0, 0) := rfl
set_option maxRecDepth 100000 in
theorem i_166_762 : ins 166 762 = some (.aload_n 0, 763, 0, 0, 0, 0) := rfl
set_option maxRecDepth 100000 in
theorem i_166_763 : ins 166 763 = some (.iload 5, 765, 5, 0, 0, 0) := rfl
set_option maxRecDepth 100000 in
theorem i_166_765 : ins 166 765 = some (.iconst 2, 766, 0, 0, 0, 2) := rfl
set_option maxRecDepth 100000 in
theorem i_166_766 : ins 166 766 = some (.iadd, 767, 0, 0, 0, 0) := rfl
set_option maxRecDepth 100000 in
theorem i_166_767 : ins 166 767 = some (.iaload, 768, 0, 0, 0, 0) := rfl
set_option maxRecDepth 100000 in
theorem i_166_768 : ins 166 768 = some (.aload_n 3, 769, 3, 0, 0, 0) := rfl
set_option maxRecDepth 100000 in
theorem i_166_769 : ins 166 769 = some (.invokestatic 115, 772, 160, 2, 4, 0) := rfl
theorem S166_755 {Q : Ou → Prop} {M : Mem} {κ : Kp} (hκ : Rd κ)  {i : Nat} (b_i : i ≤ 100000)
    (o1 : vp_in (nI (i + 1)) (kL κ))
    (o2 : vp_in (nI (i + 2)) (kL κ))
    (k1 : RT 160 (0, entL 160 [.ref 0, .int (M 999 (nI (i + 1)).toNatClampNeg), .int (M 999 (nI (i + 2)).toNatClampNeg), .ref 178], [], M, κ) (fun o => ∃ v M1 κ1, o = (.inl v, M1, κ1) ∧ RT 166 (772, [.ref 999, .ref 0, .ref 134, .ref 178, .ref 179, .int (nI i), UU, UU, UU], v.toList ++ [], M1, κ1) Q))
    : RT 166 (755, [.ref 999, .ref 0, .ref 134, .ref 178, .ref 179, .int (nI i), UU, UU, UU], [], M, κ) Q := by
  refine w_load i_166_755 rfl rfl ?_
  refine w_load i_166_756 rfl rfl ?_
  refine w_load i_166_757 rfl rfl ?_
  refine w_push i_166_759 rfl ?_
  refine w_bin (w := (nI (i + 1))) i_166_760 rfl (nI_add i 1) ?_
  refine w_sald i_166_761 (o1) ?_
  refine w_load i_166_762 rfl rfl ?_
  refine w_load i_166_763 rfl rfl ?_
  refine w_push i_166_765 rfl ?_
  refine w_bin (w := (nI (i + 2))) i_166_766 rfl (nI_add i 2) ?_
  refine w_sald i_166_767 (o2) ?_
  refine w_load i_166_768 rfl rfl ?_
  exact w_callSI i_166_769 ⟨by decide, by decide, by decide, rfl, rfl⟩ (av := [.ref 0, .int (M 999 (nI (i + 1)).toNatClampNeg), .int (M 999 (nI (i + 2)).toNatClampNeg), .ref 178]) (rest := []) rfl rfl (Nat.le_of_ble_eq_true rfl) (k1)
set_option maxRecDepth 100000 in
theorem i_166_823 : ins 166 823 = some (.aload_n 1, 824, 1, 0, 0, 0) := rfl
set_option maxRecDepth 100000 in
theorem i_166_824 : ins 166 824 = some (.aload_n 0, 825, 0, 0, 0, 0) := rfl
set_option maxRecDepth 100000 in
theorem i_166_825 : ins 166 825 = some (.iload 5, 827, 5, 0, 0, 0) := rfl
set_option maxRecDepth 100000 in
theorem i_166_827 : ins 166 827 = some (.iconst 1, 828, 0, 0, 0, 1) := rfl
set_option maxRecDepth 100000 in
theorem i_166_828 : ins 166 828 = some (.iadd, 829, 0, 0, 0, 0) := rfl
set_option maxRecDepth 100000 in
theorem i_166_829 : ins 166 829 = some (.iaload, 830, 0, 0, 0, 0) := rfl
set_option maxRecDepth 100000 in
theorem i_166_830 : ins 166 830 = some (.aload_n 0, 831, 0, 0, 0, 0) := rfl
set_option maxRecDepth 100000 in
theorem i_166_831 : ins 166 831 = some (.iload 5, 833, 5, 0, 0, 0) := rfl
set_option maxRecDepth 100000 in
theorem i_166_833 : ins 166 833 = some (.iconst 2, 834, 0, 0, 0, 2) := rfl
set_option maxRecDepth 100000 in
theorem i_166_834 : ins 166 834 = some (.iadd, 835, 0, 0, 0, 0) := rfl
set_option maxRecDepth 100000 in
theorem i_166_835 : ins 166 835 = some (.iaload, 836, 0, 0, 0, 0) := rfl
set_option maxRecDepth 100000 in
theorem i_166_836 : ins 166 836 = some (.aload_n 0, 837, 0, 0, 0, 0) := rfl
set_option maxRecDepth 100000 in
theorem i_166_837 : ins 166 837 = some (.iload 5, 839, 5, 0, 0, 0) := rfl
set_option maxRecDepth 100000 in
theorem i_166_839 : ins 166 839 = some (.iconst 3, 840, 0, 0, 0, 3) := rfl
set_option maxRecDepth 100000 in
theorem i_166_840 : ins 166 840 = some (.iadd, 841, 0, 0, 0, 0) := rfl
set_option maxRecDepth 100000 in
theorem i_166_841 : ins 166 841 = some (.iaload, 842, 0, 0, 0, 0) := rfl
set_option maxRecDepth 100000 in
theorem i_166_842 : ins 166 842 = some (.aload_n 3, 843, 3, 0, 0, 0) := rfl
set_option maxRecDepth 100000 in
theorem i_166_843 : ins 166 843 = some (.invokestatic 119, 846, 161, 2, 5, 0) := rfl
theorem S166_823 {Q : Ou → Prop} {M : Mem} {κ : Kp} (hκ : Rd κ)  {i : Nat} (b_i : i ≤ 100000)
    (o1 : vp_in (nI (i + 1)) (kL κ))
    (o2 : vp_in (nI (i + 2)) (kL κ))
    (o3 : vp_in (nI (i + 3)) (kL κ))
    (k1 : RT 161 (0, entL 161 [.ref 0, .int (M 999 (nI (i + 1)).toNatClampNeg), .int (M 999 (nI (i + 2)).toNatClampNeg), .int (M 999 (nI (i + 3)).toNatClampNeg), .ref 178], [], M, κ) (fun o => ∃ v M1 κ1, o = (.inl v, M1, κ1) ∧ RT 166 (846, [.ref 999, .ref 0, .ref 134, .ref 178, .ref 179, .int (nI i), UU, UU, UU], v.toList ++ [], M1, κ1) Q))
    : RT 166 (823, [.ref 999, .ref 0, .ref 134, .ref 178, .ref 179, .int (nI i), UU, UU, UU], [], M, κ) Q := by
  refine w_load i_166_823 rfl rfl ?_
  refine w_load i_166_824 rfl rfl ?_
  refine w_load i_166_825 rfl rfl ?_
  refine w_push i_166_827 rfl ?_
  refine w_bin (w := (nI (i + 1))) i_166_828 rfl (nI_add i 1) ?_
  refine w_sald i_166_829 (o1) ?_
  refine w_load i_166_830 rfl rfl ?_
  refine w_load i_166_831 rfl rfl ?_
  refine w_push i_166_833 rfl ?_
  refine w_bin (w := (nI (i + 2))) i_166_834 rfl (nI_add i 2) ?_
  refine w_sald i_166_835 (o2) ?_
  refine w_load i_166_836 rfl rfl ?_
  refine w_load i_166_837 rfl rfl ?_
  refine w_push i_166_839 rfl ?_
  refine w_bin (w := (nI (i + 3))) i_166_840 rfl (nI_add i 3) ?_
  refine w_sald i_166_841 (o3) ?_
  refine w_load i_166_842 rfl rfl ?_
  exact w_callSI i_166_843 ⟨by decide, by decide, by decide, rfl, rfl⟩ (av := [.ref 0, .int (M 999 (nI (i + 1)).toNatClampNeg), .int (M 999 (nI (i + 2)).toNatClampNeg), .int (M 999 (nI (i + 3)).toNatClampNeg), .ref 178]) (rest := []) rfl rfl (Nat.le_of_ble_eq_true rfl) (k1)
set_option maxRecDepth 100000 in
theorem i_166_903 : ins 166 903 = some (.aload_n 1, 904, 1, 0, 0, 0) := rfl
set_option maxRecDepth 100000 in
theorem i_166_904 : ins 166 904 = some (.aload_n 0, 905, 0, 0, 0, 0) := rfl
set_option maxRecDepth 100000 in
theorem i_166_905 : ins 166 905 = some (.iload 5, 907, 5, 0, 0, 0) := rfl
set_option maxRecDepth 100000 in
theorem i_166_907 : ins 166 907 = some (.iconst 1, 908, 0, 0, 0, 1) := rfl
set_option maxRecDepth 100000 in
theorem i_166_908 : ins 166 908 = some (.iadd, 909, 0, 0, 0, 0) := rfl
set_option maxRecDepth 100000 in
theorem i_166_909 : ins 166 909 = some (.iaload, 910, 0, 0, 0, 0) := rfl
set_option maxRecDepth 100000 in
theorem i_166_910 : ins 166 910 = some (.aload_n 0, 911, 0, 0, 0, 0) := rfl
set_option maxRecDepth 100000 in
theorem i_166_911 : ins 166 911 = some (.iload 5, 913, 5, 0, 0, 0) := rfl
set_option maxRecDepth 100000 in
theorem i_166_913 : ins 166 913 = some (.iconst 2, 914, 0, 0, 0, 2) := rfl
set_option maxRecDepth 100000 in
theorem i_166_914 : ins 166 914 = some (.iadd, 915, 0, 0, 0, 0) := rfl
set_option maxRecDepth 100000 in
theorem i_166_915 : ins 166 915 = some (.iaload, 916, 0, 0, 0, 0) := rfl
set_option maxRecDepth 100000 in
theorem i_166_916 : ins 166 916 = some (.aload_n 0, 917, 0, 0, 0, 0) := rfl
set_option maxRecDepth 100000 in
theorem i_166_917 : ins 166 917 = some (.iload 5, 919, 5, 0, 0, 0) := rfl
set_option maxRecDepth 100000 in
theorem i_166_919 : ins 166 919 = some (.iconst 3, 920, 0, 0, 0, 3) := rfl
set_option maxRecDepth 100000 in
theorem i_166_920 : ins 166 920 = some (.iadd, 921, 0, 0, 0, 0) := rfl
set_option maxRecDepth 100000 in
theorem i_166_921 : ins 166 921 = some (.iaload, 922, 0, 0, 0, 0) := rfl
set_option maxRecDepth 100000 in
theorem i_166_922 : ins 166 922 = some (.ifCond .eq 7, 925, 929, 0, 0, 0) := rfl
set_option maxRecDepth 100000 in
theorem i_166_925 : ins 166 925 = some (.iconst 1, 926, 0, 0, 0, 1) := rfl
set_option maxRecDepth 100000 in
theorem i_166_926 : ins 166 926 = some (.goto 4, 929, 930, 0, 0, 0) := rfl
set_option maxRecDepth 100000 in
theorem i_166_929 : ins 166 929 = some (.iconst 0, 930, 0, 0, 0, 0) := rfl
set_option maxRecDepth 100000 in
theorem i_166_930 : ins 166 930 = some (.aload_n 3, 931, 3, 0, 0, 0) := rfl
set_option maxRecDepth 100000 in
theorem i_166_931 : ins 166 931 = some (.invokestatic 123, 934, 162, 2, 5, 0) := rfl
theorem S166_903 {Q : Ou → Prop} {M : Mem} {κ : Kp} (hκ : Rd κ)  {i : Nat} (b_i : i ≤ 100000)
    (o1 : vp_in (nI (i + 1)) (kL κ))
    (o2 : vp_in (nI (i + 2)) (kL κ))
    (o3 : vp_in (nI (i + 3)) (kL κ))
    (k1 : RT 162 (0, entL 162 [.ref 0, .int (M 999 (nI (i + 1)).toNatClampNeg), .int (M 999 (nI (i + 2)).toNatClampNeg), .int (bI (if (M 999 (nI (i + 3)).toNatClampNeg) = 0 then false else true)), .ref 178], [], M, κ) (fun o => ∃ v M1 κ1, o = (.inl v, M1, κ1) ∧ RT 166 (934, [.ref 999, .ref 0, .ref 134, .ref 178, .ref 179, .int (nI i), UU, UU, UU], v.toList ++ [], M1, κ1) Q))
    : RT 166 (903, [.ref 999, .ref 0, .ref 134, .ref 178, .ref 179, .int (nI i), UU, UU, UU], [], M, κ) Q := by
  refine w_load i_166_903 rfl rfl ?_
  refine w_load i_166_904 rfl rfl ?_
  refine w_load i_166_905 rfl rfl ?_
  refine w_push i_166_907 rfl ?_
  refine w_bin (w := (nI (i + 1))) i_166_908 rfl (nI_add i 1) ?_
  refine w_sald i_166_909 (o1) ?_
  refine w_load i_166_910 rfl rfl ?_
  refine w_load i_166_911 rfl rfl ?_
  refine w_push i_166_913 rfl ?_
  refine w_bin (w := (nI (i + 2))) i_166_914 rfl (nI_add i 2) ?_
  refine w_sald i_166_915 (o2) ?_
  refine w_load i_166_916 rfl rfl ?_
  refine w_load i_166_917 rfl rfl ?_
  refine w_push i_166_919 rfl ?_
  refine w_bin (w := (nI (i + 3))) i_166_920 rfl (nI_add i 3) ?_
  refine w_sald i_166_921 (o3) ?_
  have K1 : RT 166 (930, [.ref 999, .ref 0, .ref 134, .ref 178, .ref 179, .int (nI i), UU, UU, UU], [.int (bI (if (M 999 (nI (i + 3)).toNatClampNeg) = 0 then false else true)), .int (M 999 (nI (i + 2)).toNatClampNeg), .int (M 999 (nI (i + 1)).toNatClampNeg), .ref 0], M, κ) Q := by
    refine w_load i_166_930 rfl rfl ?_
    exact w_callSI i_166_931 ⟨by decide, by decide, by decide, rfl, rfl⟩ (av := [.ref 0, .int (M 999 (nI (i + 1)).toNatClampNeg), .int (M 999 (nI (i + 2)).toNatClampNeg), .int (bI (if (M 999 (nI (i + 3)).toNatClampNeg) = 0 then false else true)), .ref 178]) (rest := []) rfl rfl (Nat.le_of_ble_eq_true rfl) (k1)
  refine w_if0 ((M 999 (nI (i + 3)).toNatClampNeg) = 0) i_166_922 cI0_eq ?_ ?_
  · intro h2
    refine w_push i_166_929 rfl ?_
    exact (by first | exact (K1) | (have K9 := K1; simp only [↓if_pos h2] at K9 ⊢; exact (K9)))
  · intro h3
    refine w_push i_166_925 rfl ?_
    refine w_goto i_166_926 ?_
    exact (by first | exact (K1) | (have K9 := K1; simp only [↓if_neg h3] at K9 ⊢; exact (K9)))
set_option maxRecDepth 100000 in
theorem i_166_998 : ins 166 998 = some (.aload_n 1, 999, 1, 0, 0, 0) := rfl
set_option maxRecDepth 100000 in
theorem i_166_999 : ins 166 999 = some (.aload_n 0, 1000, 0, 0, 0, 0) := rfl
set_option maxRecDepth 100000 in
theorem i_166_1000 : ins 166 1000 = some (.iload 5, 1002, 5, 0, 0, 0) := rfl
set_option maxRecDepth 100000 in
theorem i_166_1002 : ins 166 1002 = some (.iconst 1, 1003, 0, 0, 0, 1) := rfl
set_option maxRecDepth 100000 in
theorem i_166_1003 : ins 166 1003 = some (.iadd, 1004, 0, 0, 0, 0) := rfl
set_option maxRecDepth 100000 in
theorem i_166_1004 : ins 166 1004 = some (.iaload, 1005, 0, 0, 0, 0) := rfl
set_option maxRecDepth 100000 in
theorem i_166_1005 : ins 166 1005 = some (.aload 4, 1007, 4, 0, 0, 0) := rfl
set_option maxRecDepth 100000 in
theorem i_166_1007 : ins 166 1007 = some (.invokestatic 127, 1010, 163, 2, 3, 0) := rfl
theorem S166_998 {Q : Ou → Prop} {M : Mem} {κ : Kp} (hκ : Rd κ)  {i : Nat} (b_i : i ≤ 100000)
    (o1 : vp_in (nI (i + 1)) (kL κ))
    (k1 : RT 163 (0, entL 163 [.ref 0, .int (M 999 (nI (i + 1)).toNatClampNeg), .ref 179], [], M, κ) (fun o => ∃ v M1 κ1, o = (.inl v, M1, κ1) ∧ RT 166 (1010, [.ref 999, .ref 0, .ref 134, .ref 178, .ref 179, .int (nI i), UU, UU, UU], v.toList ++ [], M1, κ1) Q))
    : RT 166 (998, [.ref 999, .ref 0, .ref 134, .ref 178, .ref 179, .int (nI i), UU, UU, UU], [], M, κ) Q := by
  refine w_load i_166_998 rfl rfl ?_
  refine w_load i_166_999 rfl rfl ?_
  refine w_load i_166_1000 rfl rfl ?_
  refine w_push i_166_1002 rfl ?_
  refine w_bin (w := (nI (i + 1))) i_166_1003 rfl (nI_add i 1) ?_
  refine w_sald i_166_1004 (o1) ?_
  refine w_load i_166_1005 rfl rfl ?_
  exact w_callSI i_166_1007 ⟨by decide, by decide, by decide, rfl, rfl⟩ (av := [.ref 0, .int (M 999 (nI (i + 1)).toNatClampNeg), .ref 179]) (rest := []) rfl rfl (Nat.le_of_ble_eq_true rfl) (k1)
set_option maxRecDepth 100000 in
theorem i_166_161 : ins 166 161 = some (.istore 6, 163, 6, 0, 0, 0) := rfl
set_option maxRecDepth 100000 in
theorem i_166_163 : ins 166 163 = some (.aload_n 2, 164, 2, 0, 0, 0) := rfl
set_option maxRecDepth 100000 in
theorem i_166_164 : ins 166 164 = some (.aload_n 0, 165, 0, 0, 0, 0) := rfl
set_option maxRecDepth 100000 in
theorem i_166_165 : ins 166 165 = some (.iload 5, 167, 5, 0, 0, 0) := rfl
set_option maxRecDepth 100000 in
theorem i_166_167 : ins 166 167 = some (.iconst 1, 168, 0, 0, 0, 1) := rfl
set_option maxRecDepth 100000 in
theorem i_166_168 : ins 166 168 = some (.iadd, 169, 0, 0, 0, 0) := rfl
set_option maxRecDepth 100000 in
theorem i_166_169 : ins 166 169 = some (.iaload, 170, 0, 0, 0, 0) := rfl
set_option maxRecDepth 100000 in
theorem i_166_170 : ins 166 170 = some (.aload_n 0, 171, 0, 0, 0, 0) := rfl
set_option maxRecDepth 100000 in
theorem i_166_171 : ins 166 171 = some (.iload 5, 173, 5, 0, 0, 0) := rfl
set_option maxRecDepth 100000 in
theorem i_166_173 : ins 166 173 = some (.iconst 2, 174, 0, 0, 0, 2) := rfl
set_option maxRecDepth 100000 in
theorem i_166_174 : ins 166 174 = some (.iadd, 175, 0, 0, 0, 0) := rfl
set_option maxRecDepth 100000 in
theorem i_166_175 : ins 166 175 = some (.iaload, 176, 0, 0, 0, 0) := rfl
set_option maxRecDepth 100000 in
theorem i_166_176 : ins 166 176 = some (.aload_n 0, 177, 0, 0, 0, 0) := rfl
set_option maxRecDepth 100000 in
theorem i_166_177 : ins 166 177 = some (.iload 5, 179, 5, 0, 0, 0) := rfl
set_option maxRecDepth 100000 in
theorem i_166_179 : ins 166 179 = some (.iconst 3, 180, 0, 0, 0, 3) := rfl
set_option maxRecDepth 100000 in
theorem i_166_180 : ins 166 180 = some (.iadd, 181, 0, 0, 0, 0) := rfl
set_option maxRecDepth 100000 in
theorem i_166_181 : ins 166 181 = some (.iaload, 182, 0, 0, 0, 0) := rfl
set_option maxRecDepth 100000 in
theorem i_166_182 : ins 166 182 = some (.aload_n 0, 183, 0, 0, 0, 0) := rfl
set_option maxRecDepth 100000 in
theorem i_166_183 : ins 166 183 = some (.iload 5, 185, 5, 0, 0, 0) := rfl
set_option maxRecDepth 100000 in
theorem i_166_185 : ins 166 185 = some (.iconst 4, 186, 0, 0, 0, 4) := rfl
set_option maxRecDepth 100000 in
theorem i_166_186 : ins 166 186 = some (.iadd, 187, 0, 0, 0, 0) := rfl
set_option maxRecDepth 100000 in
theorem i_166_187 : ins 166 187 = some (.iaload, 188, 0, 0, 0, 0) := rfl
set_option maxRecDepth 100000 in
theorem i_166_188 : ins 166 188 = some (.aload_n 0, 189, 0, 0, 0, 0) := rfl
set_option maxRecDepth 100000 in
theorem i_166_189 : ins 166 189 = some (.iload 5, 191, 5, 0, 0, 0) := rfl
set_option maxRecDepth 100000 in
theorem i_166_191 : ins 166 191 = some (.iconst 5, 192, 0, 0, 0, 5) := rfl
set_option maxRecDepth 100000 in
theorem i_166_192 : ins 166 192 = some (.iadd, 193, 0, 0, 0, 0) := rfl
set_option maxRecDepth 100000 in
theorem i_166_193 : ins 166 193 = some (.iaload, 194, 0, 0, 0, 0) := rfl
set_option maxRecDepth 100000 in
theorem i_166_194 : ins 166 194 = some (.aload_n 0, 195, 0, 0, 0, 0) := rfl
set_option maxRecDepth 100000 in
theorem i_166_195 : ins 166 195 = some (.iload 5, 197, 5, 0, 0, 0) := rfl
set_option maxRecDepth 100000 in
theorem i_166_197 : ins 166 197 = some (.bipush 6, 199, 0, 0, 0, 6) := rfl
set_option maxRecDepth 100000 in
theorem i_166_199 : ins 166 199 = some (.iadd, 200, 0, 0, 0, 0) := rfl
set_option maxRecDepth 100000 in
theorem i_166_200 : ins 166 200 = some (.iaload, 201, 0, 0, 0, 0) := rfl
set_option maxRecDepth 100000 in
theorem i_166_201 : ins 166 201 = some (.invokevirtual 73, 204, 97, 0, 7, 0) := rfl
theorem S166_161 {Q : Ou → Prop} {M : Mem} {κ : Kp} (hκ : Rd κ)  {i : Nat} {kc : Int32} (b_i : i ≤ 100000)
    (o1 : vp_in (nI (i + 1)) (kL κ))
    (o2 : vp_in (nI (i + 2)) (kL κ))
    (o3 : vp_in (nI (i + 3)) (kL κ))
    (o4 : vp_in (nI (i + 4)) (kL κ))
    (o5 : vp_in (nI (i + 5)) (kL κ))
    (o6 : vp_in (nI (i + 6)) (kL κ))
    (k1 : RT 97 (0, entL 97 [.ref 134, .int (M 999 (nI (i + 1)).toNatClampNeg), .int (M 999 (nI (i + 2)).toNatClampNeg), .int (M 999 (nI (i + 3)).toNatClampNeg), .int (M 999 (nI (i + 4)).toNatClampNeg), .int (M 999 (nI (i + 5)).toNatClampNeg), .int (M 999 (nI (i + 6)).toNatClampNeg)], [], M, κ) (fun o => ∃ v M1 κ1, o = (.inl v, M1, κ1) ∧ RT 166 (204, [.ref 999, .ref 0, .ref 134, .ref 178, .ref 179, .int (nI i), .int kc, UU, UU], v.toList ++ [], M1, κ1) Q))
    : RT 166 (161, [.ref 999, .ref 0, .ref 134, .ref 178, .ref 179, .int (nI i), UU, UU, UU], [.int kc], M, κ) Q := by
  refine w_store (l1 := [.ref 999, .ref 0, .ref 134, .ref 178, .ref 179, .int (nI i), .int kc, UU, UU]) i_166_161 rfl (Nat.le_of_ble_eq_true rfl) rfl ?_
  refine w_load i_166_163 rfl rfl ?_
  refine w_load i_166_164 rfl rfl ?_
  refine w_load i_166_165 rfl rfl ?_
  refine w_push i_166_167 rfl ?_
  refine w_bin (w := (nI (i + 1))) i_166_168 rfl (nI_add i 1) ?_
  refine w_sald i_166_169 (o1) ?_
  refine w_load i_166_170 rfl rfl ?_
  refine w_load i_166_171 rfl rfl ?_
  refine w_push i_166_173 rfl ?_
  refine w_bin (w := (nI (i + 2))) i_166_174 rfl (nI_add i 2) ?_
  refine w_sald i_166_175 (o2) ?_
  refine w_load i_166_176 rfl rfl ?_
  refine w_load i_166_177 rfl rfl ?_
  refine w_push i_166_179 rfl ?_
  refine w_bin (w := (nI (i + 3))) i_166_180 rfl (nI_add i 3) ?_
  refine w_sald i_166_181 (o3) ?_
  refine w_load i_166_182 rfl rfl ?_
  refine w_load i_166_183 rfl rfl ?_
  refine w_push i_166_185 rfl ?_
  refine w_bin (w := (nI (i + 4))) i_166_186 rfl (nI_add i 4) ?_
  refine w_sald i_166_187 (o4) ?_
  refine w_load i_166_188 rfl rfl ?_
  refine w_load i_166_189 rfl rfl ?_
  refine w_push i_166_191 rfl ?_
  refine w_bin (w := (nI (i + 5))) i_166_192 rfl (nI_add i 5) ?_
  refine w_sald i_166_193 (o5) ?_
  refine w_load i_166_194 rfl rfl ?_
  refine w_load i_166_195 rfl rfl ?_
  refine w_push i_166_197 rfl ?_
  refine w_bin (w := (nI (i + 6))) i_166_199 rfl (nI_add i 6) ?_
  refine w_sald i_166_200 (o6) ?_
  exact w_callVI (i := _) i_166_201 ⟨by decide, by decide, by decide, rfl⟩ hκ (⟨rfl, by decide⟩ : isOb 134 7) (av := [.int (M 999 (nI (i + 1)).toNatClampNeg), .int (M 999 (nI (i + 2)).toNatClampNeg), .int (M 999 (nI (i + 3)).toNatClampNeg), .int (M 999 (nI (i + 4)).toNatClampNeg), .int (M 999 (nI (i + 5)).toNatClampNeg), .int (M 999 (nI (i + 6)).toNatClampNeg)]) (rest := []) rfl rfl (Nat.le_of_ble_eq_true rfl) (k1)
set_option maxRecDepth 100000 in
theorem i_166_247 : ins 166 247 = some (.istore 6, 249, 6, 0, 0, 0) := rfl
set_option maxRecDepth 100000 in
theorem i_166_249 : ins 166 249 = some (.aload_n 2, 250, 2, 0, 0, 0) := rfl
set_option maxRecDepth 100000 in
theorem i_166_250 : ins 166 250 = some (.aload_n 0, 251, 0, 0, 0, 0) := rfl
set_option maxRecDepth 100000 in
theorem i_166_251 : ins 166 251 = some (.iload 5, 253, 5, 0, 0, 0) := rfl
set_option maxRecDepth 100000 in
theorem i_166_253 : ins 166 253 = some (.iconst 1, 254, 0, 0, 0, 1) := rfl
set_option maxRecDepth 100000 in
theorem i_166_254 : ins 166 254 = some (.iadd, 255, 0, 0, 0, 0) := rfl
set_option maxRecDepth 100000 in
theorem i_166_255 : ins 166 255 = some (.iaload, 256, 0, 0, 0, 0) := rfl
set_option maxRecDepth 100000 in
theorem i_166_256 : ins 166 256 = some (.aload_n 0, 257, 0, 0, 0, 0) := rfl
set_option maxRecDepth 100000 in
theorem i_166_257 : ins 166 257 = some (.iload 5, 259, 5, 0, 0, 0) := rfl
set_option maxRecDepth 100000 in
theorem i_166_259 : ins 166 259 = some (.iconst 2, 260, 0, 0, 0, 2) := rfl
set_option maxRecDepth 100000 in
theorem i_166_260 : ins 166 260 = some (.iadd, 261, 0, 0, 0, 0) := rfl
set_option maxRecDepth 100000 in
theorem i_166_261 : ins 166 261 = some (.iaload, 262, 0, 0, 0, 0) := rfl
set_option maxRecDepth 100000 in
theorem i_166_262 : ins 166 262 = some (.aload_n 0, 263, 0, 0, 0, 0) := rfl
set_option maxRecDepth 100000 in
theorem i_166_263 : ins 166 263 = some (.iload 5, 265, 5, 0, 0, 0) := rfl
set_option maxRecDepth 100000 in
theorem i_166_265 : ins 166 265 = some (.iconst 3, 266, 0, 0, 0, 3) := rfl
set_option maxRecDepth 100000 in
theorem i_166_266 : ins 166 266 = some (.iadd, 267, 0, 0, 0, 0) := rfl
set_option maxRecDepth 100000 in
theorem i_166_267 : ins 166 267 = some (.iaload, 268, 0, 0, 0, 0) := rfl
set_option maxRecDepth 100000 in
theorem i_166_268 : ins 166 268 = some (.aload_n 0, 269, 0, 0, 0, 0) := rfl
set_option maxRecDepth 100000 in
theorem i_166_269 : ins 166 269 = some (.iload 5, 271, 5, 0, 0, 0) := rfl
set_option maxRecDepth 100000 in
theorem i_166_271 : ins 166 271 = some (.iconst 4, 272, 0, 0, 0, 4) := rfl
set_option maxRecDepth 100000 in
theorem i_166_272 : ins 166 272 = some (.iadd, 273, 0, 0, 0, 0) := rfl
set_option maxRecDepth 100000 in
theorem i_166_273 : ins 166 273 = some (.iaload, 274, 0, 0, 0, 0) := rfl
set_option maxRecDepth 100000 in
theorem i_166_274 : ins 166 274 = some (.invokevirtual 80, 277, 98, 0, 5, 0) := rfl
theorem S166_247 {Q : Ou → Prop} {M : Mem} {κ : Kp} (hκ : Rd κ)  {i : Nat} {kc : Int32} (b_i : i ≤ 100000)
    (o1 : vp_in (nI (i + 1)) (kL κ))
    (o2 : vp_in (nI (i + 2)) (kL κ))
    (o3 : vp_in (nI (i + 3)) (kL κ))
    (o4 : vp_in (nI (i + 4)) (kL κ))
    (k1 : RT 98 (0, entL 98 [.ref 134, .int (M 999 (nI (i + 1)).toNatClampNeg), .int (M 999 (nI (i + 2)).toNatClampNeg), .int (M 999 (nI (i + 3)).toNatClampNeg), .int (M 999 (nI (i + 4)).toNatClampNeg)], [], M, κ) (fun o => ∃ v M1 κ1, o = (.inl v, M1, κ1) ∧ RT 166 (277, [.ref 999, .ref 0, .ref 134, .ref 178, .ref 179, .int (nI i), .int kc, UU, UU], v.toList ++ [], M1, κ1) Q))
    : RT 166 (247, [.ref 999, .ref 0, .ref 134, .ref 178, .ref 179, .int (nI i), UU, UU, UU], [.int kc], M, κ) Q := by
  refine w_store (l1 := [.ref 999, .ref 0, .ref 134, .ref 178, .ref 179, .int (nI i), .int kc, UU, UU]) i_166_247 rfl (Nat.le_of_ble_eq_true rfl) rfl ?_
  refine w_load i_166_249 rfl rfl ?_
  refine w_load i_166_250 rfl rfl ?_
  refine w_load i_166_251 rfl rfl ?_
  refine w_push i_166_253 rfl ?_
  refine w_bin (w := (nI (i + 1))) i_166_254 rfl (nI_add i 1) ?_
  refine w_sald i_166_255 (o1) ?_
  refine w_load i_166_256 rfl rfl ?_
  refine w_load i_166_257 rfl rfl ?_
  refine w_push i_166_259 rfl ?_
  refine w_bin (w := (nI (i + 2))) i_166_260 rfl (nI_add i 2) ?_
  refine w_sald i_166_261 (o2) ?_
  refine w_load i_166_262 rfl rfl ?_
  refine w_load i_166_263 rfl rfl ?_
  refine w_push i_166_265 rfl ?_
  refine w_bin (w := (nI (i + 3))) i_166_266 rfl (nI_add i 3) ?_
  refine w_sald i_166_267 (o3) ?_
  refine w_load i_166_268 rfl rfl ?_
  refine w_load i_166_269 rfl rfl ?_
  refine w_push i_166_271 rfl ?_
  refine w_bin (w := (nI (i + 4))) i_166_272 rfl (nI_add i 4) ?_
  refine w_sald i_166_273 (o4) ?_
  exact w_callVI (i := _) i_166_274 ⟨by decide, by decide, by decide, rfl⟩ hκ (⟨rfl, by decide⟩ : isOb 134 7) (av := [.int (M 999 (nI (i + 1)).toNatClampNeg), .int (M 999 (nI (i + 2)).toNatClampNeg), .int (M 999 (nI (i + 3)).toNatClampNeg), .int (M 999 (nI (i + 4)).toNatClampNeg)]) (rest := []) rfl rfl (Nat.le_of_ble_eq_true rfl) (k1)
set_option maxRecDepth 100000 in
theorem i_166_352 : ins 166 352 = some (.istore 6, 354, 6, 0, 0, 0) := rfl
set_option maxRecDepth 100000 in
theorem i_166_354 : ins 166 354 = some (.aload_n 2, 355, 2, 0, 0, 0) := rfl
set_option maxRecDepth 100000 in
theorem i_166_355 : ins 166 355 = some (.aload_n 0, 356, 0, 0, 0, 0) := rfl
set_option maxRecDepth 100000 in
theorem i_166_356 : ins 166 356 = some (.iload 5, 358, 5, 0, 0, 0) := rfl
set_option maxRecDepth 100000 in
theorem i_166_358 : ins 166 358 = some (.iconst 1, 359, 0, 0, 0, 1) := rfl
set_option maxRecDepth 100000 in
theorem i_166_359 : ins 166 359 = some (.iadd, 360, 0, 0, 0, 0) := rfl
set_option maxRecDepth 100000 in
theorem i_166_360 : ins 166 360 = some (.iaload, 361, 0, 0, 0, 0) := rfl
set_option maxRecDepth 100000 in
theorem i_166_361 : ins 166 361 = some (.aload_n 0, 362, 0, 0, 0, 0) := rfl
set_option maxRecDepth 100000 in
theorem i_166_362 : ins 166 362 = some (.iload 5, 364, 5, 0, 0, 0) := rfl
set_option maxRecDepth 100000 in
theorem i_166_364 : ins 166 364 = some (.iconst 2, 365, 0, 0, 0, 2) := rfl
set_option maxRecDepth 100000 in
theorem i_166_365 : ins 166 365 = some (.iadd, 366, 0, 0, 0, 0) := rfl
set_option maxRecDepth 100000 in
theorem i_166_366 : ins 166 366 = some (.iaload, 367, 0, 0, 0, 0) := rfl
set_option maxRecDepth 100000 in
theorem i_166_367 : ins 166 367 = some (.aload_n 0, 368, 0, 0, 0, 0) := rfl
set_option maxRecDepth 100000 in
theorem i_166_368 : ins 166 368 = some (.iload 5, 370, 5, 0, 0, 0) := rfl
set_option maxRecDepth 100000 in
theorem i_166_370 : ins 166 370 = some (.iconst 3, 371, 0, 0, 0, 3) := rfl
set_option maxRecDepth 100000 in
theorem i_166_371 : ins 166 371 = some (.iadd, 372, 0, 0, 0, 0) := rfl
set_option maxRecDepth 100000 in
theorem i_166_372 : ins 166 372 = some (.iaload, 373, 0, 0, 0, 0) := rfl
set_option maxRecDepth 100000 in
theorem i_166_373 : ins 166 373 = some (.aload_n 0, 374, 0, 0, 0, 0) := rfl
set_option maxRecDepth 100000 in
theorem i_166_374 : ins 166 374 = some (.iload 5, 376, 5, 0, 0, 0) := rfl
set_option maxRecDepth 100000 in
theorem i_166_376 : ins 166 376 = some (.iconst 4, 377, 0, 0, 0, 4) := rfl
set_option maxRecDepth 100000 in
theorem i_166_377 : ins 166 377 = some (.iadd, 378, 0, 0, 0, 0) := rfl
set_option maxRecDepth 100000 in
theorem i_166_378 : ins 166 378 = some (.iaload, 379, 0, 0, 0, 0) := rfl
set_option maxRecDepth 100000 in
theorem i_166_379 : ins 166 379 = some (.aload_n 0, 380, 0, 0, 0, 0) := rfl
set_option maxRecDepth 100000 in
theorem i_166_380 : ins 166 380 = some (.iload 5, 382, 5, 0, 0, 0) := rfl
set_option maxRecDepth 100000 in
theorem i_166_382 : ins 166 382 = some (.iconst 5, 383, 0, 0, 0, 5) := rfl
set_option maxRecDepth 100000 in
theorem i_166_383 : ins 166 383 = some (.iadd, 384, 0, 0, 0, 0) := rfl
set_option maxRecDepth 100000 in
theorem i_166_384 : ins 166 384 = some (.iaload, 385, 0, 0, 0, 0) := rfl
set_option maxRecDepth 100000 in
theorem i_166_385 : ins 166 385 = some (.aload_n 0, 386, 0, 0, 0, 0) := rfl
set_option maxRecDepth 100000 in
theorem i_166_386 : ins 166 386 = some (.iload 5, 388, 5, 0, 0, 0) := rfl
set_option maxRecDepth 100000 in
theorem i_166_388 : ins 166 388 = some (.bipush 6, 390, 0, 0, 0, 6) := rfl
set_option maxRecDepth 100000 in
theorem i_166_390 : ins 166 390 = some (.iadd, 391, 0, 0, 0, 0) := rfl
set_option maxRecDepth 100000 in
theorem i_166_391 : ins 166 391 = some (.iaload, 392, 0, 0, 0, 0) := rfl
set_option maxRecDepth 100000 in
theorem i_166_392 : ins 166 392 = some (.invokevirtual 84, 395, 99, 0, 7, 0) := rfl
theorem S166_352 {Q : Ou → Prop} {M : Mem} {κ : Kp} (hκ : Rd κ)  {i : Nat} {kc : Int32} (b_i : i ≤ 100000)
    (o1 : vp_in (nI (i + 1)) (kL κ))
    (o2 : vp_in (nI (i + 2)) (kL κ))
    (o3 : vp_in (nI (i + 3)) (kL κ))
    (o4 : vp_in (nI (i + 4)) (kL κ))
    (o5 : vp_in (nI (i + 5)) (kL κ))
    (o6 : vp_in (nI (i + 6)) (kL κ))
    (k1 : RT 99 (0, entL 99 [.ref 134, .int (M 999 (nI (i + 1)).toNatClampNeg), .int (M 999 (nI (i + 2)).toNatClampNeg), .int (M 999 (nI (i + 3)).toNatClampNeg), .int (M 999 (nI (i + 4)).toNatClampNeg), .int (M 999 (nI (i + 5)).toNatClampNeg), .int (M 999 (nI (i + 6)).toNatClampNeg)], [], M, κ) (fun o => ∃ v M1 κ1, o = (.inl v, M1, κ1) ∧ RT 166 (395, [.ref 999, .ref 0, .ref 134, .ref 178, .ref 179, .int (nI i), .int kc, UU, UU], v.toList ++ [], M1, κ1) Q))
    : RT 166 (352, [.ref 999, .ref 0, .ref 134, .ref 178, .ref 179, .int (nI i), UU, UU, UU], [.int kc], M, κ) Q := by
  refine w_store (l1 := [.ref 999, .ref 0, .ref 134, .ref 178, .ref 179, .int (nI i), .int kc, UU, UU]) i_166_352 rfl (Nat.le_of_ble_eq_true rfl) rfl ?_
  refine w_load i_166_354 rfl rfl ?_
  refine w_load i_166_355 rfl rfl ?_
  refine w_load i_166_356 rfl rfl ?_
  refine w_push i_166_358 rfl ?_
  refine w_bin (w := (nI (i + 1))) i_166_359 rfl (nI_add i 1) ?_
  refine w_sald i_166_360 (o1) ?_
  refine w_load i_166_361 rfl rfl ?_
  refine w_load i_166_362 rfl rfl ?_
  refine w_push i_166_364 rfl ?_
  refine w_bin (w := (nI (i + 2))) i_166_365 rfl (nI_add i 2) ?_
  refine w_sald i_166_366 (o2) ?_
  refine w_load i_166_367 rfl rfl ?_
  refine w_load i_166_368 rfl rfl ?_
  refine w_push i_166_370 rfl ?_
  refine w_bin (w := (nI (i + 3))) i_166_371 rfl (nI_add i 3) ?_
  refine w_sald i_166_372 (o3) ?_
  refine w_load i_166_373 rfl rfl ?_
  refine w_load i_166_374 rfl rfl ?_
  refine w_push i_166_376 rfl ?_
  refine w_bin (w := (nI (i + 4))) i_166_377 rfl (nI_add i 4) ?_
  refine w_sald i_166_378 (o4) ?_
  refine w_load i_166_379 rfl rfl ?_
  refine w_load i_166_380 rfl rfl ?_
  refine w_push i_166_382 rfl ?_
  refine w_bin (w := (nI (i + 5))) i_166_383 rfl (nI_add i 5) ?_
  refine w_sald i_166_384 (o5) ?_
  refine w_load i_166_385 rfl rfl ?_
  refine w_load i_166_386 rfl rfl ?_
  refine w_push i_166_388 rfl ?_
  refine w_bin (w := (nI (i + 6))) i_166_390 rfl (nI_add i 6) ?_
  refine w_sald i_166_391 (o6) ?_
  exact w_callVI (i := _) i_166_392 ⟨by decide, by decide, by decide, rfl⟩ hκ (⟨rfl, by decide⟩ : isOb 134 7) (av := [.int (M 999 (nI (i + 1)).toNatClampNeg), .int (M 999 (nI (i + 2)).toNatClampNeg), .int (M 999 (nI (i + 3)).toNatClampNeg), .int (M 999 (nI (i + 4)).toNatClampNeg), .int (M 999 (nI (i + 5)).toNatClampNeg), .int (M 999 (nI (i + 6)).toNatClampNeg)]) (rest := []) rfl rfl (Nat.le_of_ble_eq_true rfl) (k1)
set_option maxRecDepth 100000 in
theorem i_166_504 : ins 166 504 = some (.istore 6, 506, 6, 0, 0, 0) := rfl
set_option maxRecDepth 100000 in
theorem i_166_506 : ins 166 506 = some (.aload_n 2, 507, 2, 0, 0, 0) := rfl
set_option maxRecDepth 100000 in
theorem i_166_507 : ins 166 507 = some (.invokevirtual 101, 510, 108, 0, 1, 0) := rfl
theorem S166_504 {Q : Ou → Prop} {M : Mem} {κ : Kp} (hκ : Rd κ)  {i : Nat} {kc : Int32} (b_i : i ≤ 100000)
    (k1 : RT 108 (0, entL 108 [.ref 134], [], M, κ) (fun o => ∃ v M1 κ1, o = (.inl v, M1, κ1) ∧ RT 166 (510, [.ref 999, .ref 0, .ref 134, .ref 178, .ref 179, .int (nI i), .int kc, UU, UU], v.toList ++ [], M1, κ1) Q))
    : RT 166 (504, [.ref 999, .ref 0, .ref 134, .ref 178, .ref 179, .int (nI i), UU, UU, UU], [.int kc], M, κ) Q := by
  refine w_store (l1 := [.ref 999, .ref 0, .ref 134, .ref 178, .ref 179, .int (nI i), .int kc, UU, UU]) i_166_504 rfl (Nat.le_of_ble_eq_true rfl) rfl ?_
  refine w_load i_166_506 rfl rfl ?_
  exact w_callVI (i := _) i_166_507 ⟨by decide, by decide, by decide, rfl⟩ hκ (⟨rfl, by decide⟩ : isOb 134 7) (av := []) (rest := []) rfl rfl (Nat.le_of_ble_eq_true rfl) (k1)
set_option maxRecDepth 100000 in
theorem i_166_548 : ins 166 548 = some (.istore 6, 550, 6, 0, 0, 0) := rfl
set_option maxRecDepth 100000 in
theorem i_166_550 : ins 166 550 = some (.aload_n 2, 551, 2, 0, 0, 0) := rfl
set_option maxRecDepth 100000 in
theorem i_166_551 : ins 166 551 = some (.invokevirtual 104, 554, 142, 0, 1, 0) := rfl
theorem S166_548 {Q : Ou → Prop} {M : Mem} {κ : Kp} (hκ : Rd κ)  {i : Nat} {kc : Int32} (b_i : i ≤ 100000)
    (k1 : RT 142 (0, entL 142 [.ref 134], [], M, κ) (fun o => ∃ v M1 κ1, o = (.inl v, M1, κ1) ∧ RT 166 (554, [.ref 999, .ref 0, .ref 134, .ref 178, .ref 179, .int (nI i), .int kc, UU, UU], v.toList ++ [], M1, κ1) Q))
    : RT 166 (548, [.ref 999, .ref 0, .ref 134, .ref 178, .ref 179, .int (nI i), UU, UU, UU], [.int kc], M, κ) Q := by
  refine w_store (l1 := [.ref 999, .ref 0, .ref 134, .ref 178, .ref 179, .int (nI i), .int kc, UU, UU]) i_166_548 rfl (Nat.le_of_ble_eq_true rfl) rfl ?_
  refine w_load i_166_550 rfl rfl ?_
  exact w_callVI (i := _) i_166_551 ⟨by decide, by decide, by decide, rfl⟩ hκ (⟨rfl, by decide⟩ : isOb 134 7) (av := []) (rest := []) rfl rfl (Nat.le_of_ble_eq_true rfl) (k1)
set_option maxRecDepth 100000 in
theorem i_166_598 : ins 166 598 = some (.istore 6, 600, 6, 0, 0, 0) := rfl
set_option maxRecDepth 100000 in
theorem i_166_600 : ins 166 600 = some (.aload_n 2, 601, 2, 0, 0, 0) := rfl
set_option maxRecDepth 100000 in
theorem i_166_601 : ins 166 601 = some (.aload_n 0, 602, 0, 0, 0, 0) := rfl
set_option maxRecDepth 100000 in
theorem i_166_602 : ins 166 602 = some (.iload 5, 604, 5, 0, 0, 0) := rfl
set_option maxRecDepth 100000 in
theorem i_166_604 : ins 166 604 = some (.iconst 1, 605, 0, 0, 0, 1) := rfl
set_option maxRecDepth 100000 in
theorem i_166_605 : ins 166 605 = some (.iadd, 606, 0, 0, 0, 0) := rfl
set_option maxRecDepth 100000 in
theorem i_166_606 : ins 166 606 = some (.iaload, 607, 0, 0, 0, 0) := rfl
set_option maxRecDepth 100000 in
theorem i_166_607 : ins 166 607 = some (.invokevirtual 108, 610, 144, 0, 2, 0) := rfl
theorem S166_598 {Q : Ou → Prop} {M : Mem} {κ : Kp} (hκ : Rd κ)  {i : Nat} {kc : Int32} (b_i : i ≤ 100000)
    (o1 : vp_in (nI (i + 1)) (kL κ))
    (k1 : RT 144 (0, entL 144 [.ref 134, .int (M 999 (nI (i + 1)).toNatClampNeg)], [], M, κ) (fun o => ∃ v M1 κ1, o = (.inl v, M1, κ1) ∧ RT 166 (610, [.ref 999, .ref 0, .ref 134, .ref 178, .ref 179, .int (nI i), .int kc, UU, UU], v.toList ++ [], M1, κ1) Q))
    : RT 166 (598, [.ref 999, .ref 0, .ref 134, .ref 178, .ref 179, .int (nI i), UU, UU, UU], [.int kc], M, κ) Q := by
  refine w_store (l1 := [.ref 999, .ref 0, .ref 134, .ref 178, .ref 179, .int (nI i), .int kc, UU, UU]) i_166_598 rfl (Nat.le_of_ble_eq_true rfl) rfl ?_
  refine w_load i_166_600 rfl rfl ?_
  refine w_load i_166_601 rfl rfl ?_
  refine w_load i_166_602 rfl rfl ?_
  refine w_push i_166_604 rfl ?_
  refine w_bin (w := (nI (i + 1))) i_166_605 rfl (nI_add i 1) ?_
  refine w_sald i_166_606 (o1) ?_
  exact w_callVI (i := _) i_166_607 ⟨by decide, by decide, by decide, rfl⟩ hκ (⟨rfl, by decide⟩ : isOb 134 7) (av := [.int (M 999 (nI (i + 1)).toNatClampNeg)]) (rest := []) rfl rfl (Nat.le_of_ble_eq_true rfl) (k1)
set_option maxRecDepth 100000 in
theorem i_166_654 : ins 166 654 = some (.istore 6, 656, 6, 0, 0, 0) := rfl
set_option maxRecDepth 100000 in
theorem i_166_656 : ins 166 656 = some (.aload_n 2, 657, 2, 0, 0, 0) := rfl
set_option maxRecDepth 100000 in
theorem i_166_657 : ins 166 657 = some (.aload_n 0, 658, 0, 0, 0, 0) := rfl
set_option maxRecDepth 100000 in
theorem i_166_658 : ins 166 658 = some (.iload 5, 660, 5, 0, 0, 0) := rfl
set_option maxRecDepth 100000 in
theorem i_166_660 : ins 166 660 = some (.iconst 1, 661, 0, 0, 0, 1) := rfl
set_option maxRecDepth 100000 in
theorem i_166_661 : ins 166 661 = some (.iadd, 662, 0, 0, 0, 0) := rfl
set_option maxRecDepth 100000 in
theorem i_166_662 : ins 166 662 = some (.iaload, 663, 0, 0, 0, 0) := rfl
set_option maxRecDepth 100000 in
theorem i_166_663 : ins 166 663 = some (.invokevirtual 111, 666, 145, 0, 2, 0) := rfl
theorem S166_654 {Q : Ou → Prop} {M : Mem} {κ : Kp} (hκ : Rd κ)  {i : Nat} {kc : Int32} (b_i : i ≤ 100000)
    (o1 : vp_in (nI (i + 1)) (kL κ))
    (k1 : RT 145 (0, entL 145 [.ref 134, .int (M 999 (nI (i + 1)).toNatClampNeg)], [], M, κ) (fun o => ∃ v M1 κ1, o = (.inl v, M1, κ1) ∧ RT 166 (666, [.ref 999, .ref 0, .ref 134, .ref 178, .ref 179, .int (nI i), .int kc, UU, UU], v.toList ++ [], M1, κ1) Q))
    : RT 166 (654, [.ref 999, .ref 0, .ref 134, .ref 178, .ref 179, .int (nI i), UU, UU, UU], [.int kc], M, κ) Q := by
  refine w_store (l1 := [.ref 999, .ref 0, .ref 134, .ref 178, .ref 179, .int (nI i), .int kc, UU, UU]) i_166_654 rfl (Nat.le_of_ble_eq_true rfl) rfl ?_
  refine w_load i_166_656 rfl rfl ?_
  refine w_load i_166_657 rfl rfl ?_
  refine w_load i_166_658 rfl rfl ?_
  refine w_push i_166_660 rfl ?_
  refine w_bin (w := (nI (i + 1))) i_166_661 rfl (nI_add i 1) ?_
  refine w_sald i_166_662 (o1) ?_
  exact w_callVI (i := _) i_166_663 ⟨by decide, by decide, by decide, rfl⟩ hκ (⟨rfl, by decide⟩ : isOb 134 7) (av := [.int (M 999 (nI (i + 1)).toNatClampNeg)]) (rest := []) rfl rfl (Nat.le_of_ble_eq_true rfl) (k1)
set_option maxRecDepth 100000 in
theorem i_166_710 : ins 166 710 = some (.istore 6, 712, 6, 0, 0, 0) := rfl
set_option maxRecDepth 100000 in
theorem i_166_712 : ins 166 712 = some (.aload_n 2, 713, 2, 0, 0, 0) := rfl
set_option maxRecDepth 100000 in
theorem i_166_713 : ins 166 713 = some (.aload_n 0, 714, 0, 0, 0, 0) := rfl
set_option maxRecDepth 100000 in
theorem i_166_714 : ins 166 714 = some (.iload 5, 716, 5, 0, 0, 0) := rfl
set_option maxRecDepth 100000 in
theorem i_166_716 : ins 166 716 = some (.iconst 1, 717, 0, 0, 0, 1) := rfl
set_option maxRecDepth 100000 in
theorem i_166_717 : ins 166 717 = some (.iadd, 718, 0, 0, 0, 0) := rfl
set_option maxRecDepth 100000 in
theorem i_166_718 : ins 166 718 = some (.iaload, 719, 0, 0, 0, 0) := rfl
set_option maxRecDepth 100000 in
theorem i_166_719 : ins 166 719 = some (.invokevirtual 114, 722, 146, 0, 2, 0) := rfl
theorem S166_710 {Q : Ou → Prop} {M : Mem} {κ : Kp} (hκ : Rd κ)  {i : Nat} {kc : Int32} (b_i : i ≤ 100000)
    (o1 : vp_in (nI (i + 1)) (kL κ))
    (k1 : RT 146 (0, entL 146 [.ref 134, .int (M 999 (nI (i + 1)).toNatClampNeg)], [], M, κ) (fun o => ∃ v M1 κ1, o = (.inl v, M1, κ1) ∧ RT 166 (722, [.ref 999, .ref 0, .ref 134, .ref 178, .ref 179, .int (nI i), .int kc, UU, UU], v.toList ++ [], M1, κ1) Q))
    : RT 166 (710, [.ref 999, .ref 0, .ref 134, .ref 178, .ref 179, .int (nI i), UU, UU, UU], [.int kc], M, κ) Q := by
  refine w_store (l1 := [.ref 999, .ref 0, .ref 134, .ref 178, .ref 179, .int (nI i), .int kc, UU, UU]) i_166_710 rfl (Nat.le_of_ble_eq_true rfl) rfl ?_
  refine w_load i_166_712 rfl rfl ?_
  refine w_load i_166_713 rfl rfl ?_
  refine w_load i_166_714 rfl rfl ?_
  refine w_push i_166_716 rfl ?_
  refine w_bin (w := (nI (i + 1))) i_166_717 rfl (nI_add i 1) ?_
  refine w_sald i_166_718 (o1) ?_
  exact w_callVI (i := _) i_166_719 ⟨by decide, by decide, by decide, rfl⟩ hκ (⟨rfl, by decide⟩ : isOb 134 7) (av := [.int (M 999 (nI (i + 1)).toNatClampNeg)]) (rest := []) rfl rfl (Nat.le_of_ble_eq_true rfl) (k1)
set_option maxRecDepth 100000 in
theorem i_166_772 : ins 166 772 = some (.istore 6, 774, 6, 0, 0, 0) := rfl
set_option maxRecDepth 100000 in
theorem i_166_774 : ins 166 774 = some (.aload_n 2, 775, 2, 0, 0, 0) := rfl
set_option maxRecDepth 100000 in
theorem i_166_775 : ins 166 775 = some (.aload_n 0, 776, 0, 0, 0, 0) := rfl
set_option maxRecDepth 100000 in
theorem i_166_776 : ins 166 776 = some (.iload 5, 778, 5, 0, 0, 0) := rfl
set_option maxRecDepth 100000 in
theorem i_166_778 : ins 166 778 = some (.iconst 1, 779, 0, 0, 0, 1) := rfl
set_option maxRecDepth 100000 in
theorem i_166_779 : ins 166 779 = some (.iadd, 780, 0, 0, 0, 0) := rfl
set_option maxRecDepth 100000 in
theorem i_166_780 : ins 166 780 = some (.iaload, 781, 0, 0, 0, 0) := rfl
set_option maxRecDepth 100000 in
theorem i_166_781 : ins 166 781 = some (.aload_n 0, 782, 0, 0, 0, 0) := rfl
set_option maxRecDepth 100000 in
theorem i_166_782 : ins 166 782 = some (.iload 5, 784, 5, 0, 0, 0) := rfl
set_option maxRecDepth 100000 in
theorem i_166_784 : ins 166 784 = some (.iconst 2, 785, 0, 0, 0, 2) := rfl
set_option maxRecDepth 100000 in
theorem i_166_785 : ins 166 785 = some (.iadd, 786, 0, 0, 0, 0) := rfl
set_option maxRecDepth 100000 in
theorem i_166_786 : ins 166 786 = some (.iaload, 787, 0, 0, 0, 0) := rfl
set_option maxRecDepth 100000 in
theorem i_166_787 : ins 166 787 = some (.invokevirtual 118, 790, 148, 0, 3, 0) := rfl
theorem S166_772 {Q : Ou → Prop} {M : Mem} {κ : Kp} (hκ : Rd κ)  {i : Nat} {kc : Int32} (b_i : i ≤ 100000)
    (o1 : vp_in (nI (i + 1)) (kL κ))
    (o2 : vp_in (nI (i + 2)) (kL κ))
    (k1 : RT 148 (0, entL 148 [.ref 134, .int (M 999 (nI (i + 1)).toNatClampNeg), .int (M 999 (nI (i + 2)).toNatClampNeg)], [], M, κ) (fun o => ∃ v M1 κ1, o = (.inl v, M1, κ1) ∧ RT 166 (790, [.ref 999, .ref 0, .ref 134, .ref 178, .ref 179, .int (nI i), .int kc, UU, UU], v.toList ++ [], M1, κ1) Q))
    : RT 166 (772, [.ref 999, .ref 0, .ref 134, .ref 178, .ref 179, .int (nI i), UU, UU, UU], [.int kc], M, κ) Q := by
  refine w_store (l1 := [.ref 999, .ref 0, .ref 134, .ref 178, .ref 179, .int (nI i), .int kc, UU, UU]) i_166_772 rfl (Nat.le_of_ble_eq_true rfl) rfl ?_
  refine w_load i_166_774 rfl rfl ?_
  refine w_load i_166_775 rfl rfl ?_
  refine w_load i_166_776 rfl rfl ?_
  refine w_push i_166_778 rfl ?_
  refine w_bin (w := (nI (i + 1))) i_166_779 rfl (nI_add i 1) ?_
  refine w_sald i_166_780 (o1) ?_
  refine w_load i_166_781 rfl rfl ?_
  refine w_load i_166_782 rfl rfl ?_
  refine w_push i_166_784 rfl ?_
  refine w_bin (w := (nI (i + 2))) i_166_785 rfl (nI_add i 2) ?_
  refine w_sald i_166_786 (o2) ?_
  exact w_callVI (i := _) i_166_787 ⟨by decide, by decide, by decide, rfl⟩ hκ (⟨rfl, by decide⟩ : isOb 134 7) (av := [.int (M 999 (nI (i + 1)).toNatClampNeg), .int (M 999 (nI (i + 2)).toNatClampNeg)]) (rest := []) rfl rfl (Nat.le_of_ble_eq_true rfl) (k1)
set_option maxRecDepth 100000 in
theorem i_166_846 : ins 166 846 = some (.istore 6, 848, 6, 0, 0, 0) := rfl
set_option maxRecDepth 100000 in
theorem i_166_848 : ins 166 848 = some (.aload_n 2, 849, 2, 0, 0, 0) := rfl
set_option maxRecDepth 100000 in
theorem i_166_849 : ins 166 849 = some (.aload_n 0, 850, 0, 0, 0, 0) := rfl
set_option maxRecDepth 100000 in
theorem i_166_850 : ins 166 850 = some (.iload 5, 852, 5, 0, 0, 0) := rfl
set_option maxRecDepth 100000 in
theorem i_166_852 : ins 166 852 = some (.iconst 1, 853, 0, 0, 0, 1) := rfl
set_option maxRecDepth 100000 in
theorem i_166_853 : ins 166 853 = some (.iadd, 854, 0, 0, 0, 0) := rfl
set_option maxRecDepth 100000 in
theorem i_166_854 : ins 166 854 = some (.iaload, 855, 0, 0, 0, 0) := rfl
set_option maxRecDepth 100000 in
theorem i_166_855 : ins 166 855 = some (.aload_n 0, 856, 0, 0, 0, 0) := rfl
set_option maxRecDepth 100000 in
theorem i_166_856 : ins 166 856 = some (.iload 5, 858, 5, 0, 0, 0) := rfl
set_option maxRecDepth 100000 in
theorem i_166_858 : ins 166 858 = some (.iconst 2, 859, 0, 0, 0, 2) := rfl
set_option maxRecDepth 100000 in
theorem i_166_859 : ins 166 859 = some (.iadd, 860, 0, 0, 0, 0) := rfl
set_option maxRecDepth 100000 in
theorem i_166_860 : ins 166 860 = some (.iaload, 861, 0, 0, 0, 0) := rfl
set_option maxRecDepth 100000 in
theorem i_166_861 : ins 166 861 = some (.aload_n 0, 862, 0, 0, 0, 0) := rfl
set_option maxRecDepth 100000 in
theorem i_166_862 : ins 166 862 = some (.iload 5, 864, 5, 0, 0, 0) := rfl
set_option maxRecDepth 100000 in
theorem i_166_864 : ins 166 864 = some (.iconst 3, 865, 0, 0, 0, 3) := rfl
set_option maxRecDepth 100000 in
theorem i_166_865 : ins 166 865 = some (.iadd, 866, 0, 0, 0, 0) := rfl
set_option maxRecDepth 100000 in
theorem i_166_866 : ins 166 866 = some (.iaload, 867, 0, 0, 0, 0) := rfl
set_option maxRecDepth 100000 in
theorem i_166_867 : ins 166 867 = some (.invokevirtual 122, 870, 149, 0, 4, 0) := rfl
theorem S166_846 {Q : Ou → Prop} {M : Mem} {κ : Kp} (hκ : Rd κ)  {i : Nat} {kc : Int32} (b_i : i ≤ 100000)
    (o1 : vp_in (nI (i + 1)) (kL κ))
    (o2 : vp_in (nI (i + 2)) (kL κ))
    (o3 : vp_in (nI (i + 3)) (kL κ))
    (k1 : RT 149 (0, entL 149 [.ref 134, .int (M 999 (nI (i + 1)).toNatClampNeg), .int (M 999 (nI (i + 2)).toNatClampNeg), .int (M 999 (nI (i + 3)).toNatClampNeg)], [], M, κ) (fun o => ∃ v M1 κ1, o = (.inl v, M1, κ1) ∧ RT 166 (870, [.ref 999, .ref 0, .ref 134, .ref 178, .ref 179, .int (nI i), .int kc, UU, UU], v.toList ++ [], M1, κ1) Q))
    : RT 166 (846, [.ref 999, .ref 0, .ref 134, .ref 178, .ref 179, .int (nI i), UU, UU, UU], [.int kc], M, κ) Q := by
  refine w_store (l1 := [.ref 999, .ref 0, .ref 134, .ref 178, .ref 179, .int (nI i), .int kc, UU, UU]) i_166_846 rfl (Nat.le_of_ble_eq_true rfl) rfl ?_
  refine w_load i_166_848 rfl rfl ?_
  refine w_load i_166_849 rfl rfl ?_
  refine w_load i_166_850 rfl rfl ?_
  refine w_push i_166_852 rfl ?_
  refine w_bin (w := (nI (i + 1))) i_166_853 rfl (nI_add i 1) ?_
  refine w_sald i_166_854 (o1) ?_
  refine w_load i_166_855 rfl rfl ?_
  refine w_load i_166_856 rfl rfl ?_
  refine w_push i_166_858 rfl ?_
  refine w_bin (w := (nI (i + 2))) i_166_859 rfl (nI_add i 2) ?_
  refine w_sald i_166_860 (o2) ?_
  refine w_load i_166_861 rfl rfl ?_
  refine w_load i_166_862 rfl rfl ?_
  refine w_push i_166_864 rfl ?_
  refine w_bin (w := (nI (i + 3))) i_166_865 rfl (nI_add i 3) ?_
  refine w_sald i_166_866 (o3) ?_
  exact w_callVI (i := _) i_166_867 ⟨by decide, by decide, by decide, rfl⟩ hκ (⟨rfl, by decide⟩ : isOb 134 7) (av := [.int (M 999 (nI (i + 1)).toNatClampNeg), .int (M 999 (nI (i + 2)).toNatClampNeg), .int (M 999 (nI (i + 3)).toNatClampNeg)]) (rest := []) rfl rfl (Nat.le_of_ble_eq_true rfl) (k1)
set_option maxRecDepth 100000 in
theorem i_166_934 : ins 166 934 = some (.istore 6, 936, 6, 0, 0, 0) := rfl
set_option maxRecDepth 100000 in
theorem i_166_936 : ins 166 936 = some (.aload_n 2, 937, 2, 0, 0, 0) := rfl
set_option maxRecDepth 100000 in
theorem i_166_937 : ins 166 937 = some (.aload_n 0, 938, 0, 0, 0, 0) := rfl
set_option maxRecDepth 100000 in
theorem i_166_938 : ins 166 938 = some (.iload 5, 940, 5, 0, 0, 0) := rfl
set_option maxRecDepth 100000 in
theorem i_166_940 : ins 166 940 = some (.iconst 1, 941, 0, 0, 0, 1) := rfl
set_option maxRecDepth 100000 in
theorem i_166_941 : ins 166 941 = some (.iadd, 942, 0, 0, 0, 0) := rfl
set_option maxRecDepth 100000 in
theorem i_166_942 : ins 166 942 = some (.iaload, 943, 0, 0, 0, 0) := rfl
set_option maxRecDepth 100000 in
theorem i_166_943 : ins 166 943 = some (.aload_n 0, 944, 0, 0, 0, 0) := rfl
set_option maxRecDepth 100000 in
theorem i_166_944 : ins 166 944 = some (.iload 5, 946, 5, 0, 0, 0) := rfl
set_option maxRecDepth 100000 in
theorem i_166_946 : ins 166 946 = some (.iconst 2, 947, 0, 0, 0, 2) := rfl
set_option maxRecDepth 100000 in
theorem i_166_947 : ins 166 947 = some (.iadd, 948, 0, 0, 0, 0) := rfl
set_option maxRecDepth 100000 in
theorem i_166_948 : ins 166 948 = some (.iaload, 949, 0, 0, 0, 0) := rfl
set_option maxRecDepth 100000 in
theorem i_166_949 : ins 166 949 = some (.aload_n 0, 950, 0, 0, 0, 0) := rfl
set_option maxRecDepth 100000 in
theorem i_166_950 : ins 166 950 = some (.iload 5, 952, 5, 0, 0, 0) := rfl
set_option maxRecDepth 100000 in
theorem i_166_952 : ins 166 952 = some (.iconst 3, 953, 0, 0, 0, 3) := rfl
set_option maxRecDepth 100000 in
theorem i_166_953 : ins 166 953 = some (.iadd, 954, 0, 0, 0, 0) := rfl
set_option maxRecDepth 100000 in
theorem i_166_954 : ins 166 954 = some (.iaload, 955, 0, 0, 0, 0) := rfl
set_option maxRecDepth 100000 in
theorem i_166_955 : ins 166 955 = some (.ifCond .eq 7, 958, 962, 0, 0, 0) := rfl
set_option maxRecDepth 100000 in
theorem i_166_958 : ins 166 958 = some (.iconst 1, 959, 0, 0, 0, 1) := rfl
set_option maxRecDepth 100000 in
theorem i_166_959 : ins 166 959 = some (.goto 4, 962, 963, 0, 0, 0) := rfl
set_option maxRecDepth 100000 in
theorem i_166_962 : ins 166 962 = some (.iconst 0, 963, 0, 0, 0, 0) := rfl
set_option maxRecDepth 100000 in
theorem i_166_963 : ins 166 963 = some (.invokevirtual 126, 966, 150, 0, 4, 0) := rfl
theorem S166_934 {Q : Ou → Prop} {M : Mem} {κ : Kp} (hκ : Rd κ)  {i : Nat} {kc : Int32} (b_i : i ≤ 100000)
    (o1 : vp_in (nI (i + 1)) (kL κ))
    (o2 : vp_in (nI (i + 2)) (kL κ))
    (o3 : vp_in (nI (i + 3)) (kL κ))
    (k1 : RT 150 (0, entL 150 [.ref 134, .int (M 999 (nI (i + 1)).toNatClampNeg), .int (M 999 (nI (i + 2)).toNatClampNeg), .int (bI (if (M 999 (nI (i + 3)).toNatClampNeg) = 0 then false else true))], [], M, κ) (fun o => ∃ v M1 κ1, o = (.inl v, M1, κ1) ∧ RT 166 (966, [.ref 999, .ref 0, .ref 134, .ref 178, .ref 179, .int (nI i), .int kc, UU, UU], v.toList ++ [], M1, κ1) Q))
    : RT 166 (934, [.ref 999, .ref 0, .ref 134, .ref 178, .ref 179, .int (nI i), UU, UU, UU], [.int kc], M, κ) Q := by
  refine w_store (l1 := [.ref 999, .ref 0, .ref 134, .ref 178, .ref 179, .int (nI i), .int kc, UU, UU]) i_166_934 rfl (Nat.le_of_ble_eq_true rfl) rfl ?_
  refine w_load i_166_936 rfl rfl ?_
  refine w_load i_166_937 rfl rfl ?_
  refine w_load i_166_938 rfl rfl ?_
  refine w_push i_166_940 rfl ?_
  refine w_bin (w := (nI (i + 1))) i_166_941 rfl (nI_add i 1) ?_
  refine w_sald i_166_942 (o1) ?_
  refine w_load i_166_943 rfl rfl ?_
  refine w_load i_166_944 rfl rfl ?_
  refine w_push i_166_946 rfl ?_
  refine w_bin (w := (nI (i + 2))) i_166_947 rfl (nI_add i 2) ?_
  refine w_sald i_166_948 (o2) ?_
  refine w_load i_166_949 rfl rfl ?_
  refine w_load i_166_950 rfl rfl ?_
  refine w_push i_166_952 rfl ?_
  refine w_bin (w := (nI (i + 3))) i_166_953 rfl (nI_add i 3) ?_
  refine w_sald i_166_954 (o3) ?_
  have K1 : RT 166 (963, [.ref 999, .ref 0, .ref 134, .ref 178, .ref 179, .int (nI i), .int kc, UU, UU], [.int (bI (if (M 999 (nI (i + 3)).toNatClampNeg) = 0 then false else true)), .int (M 999 (nI (i + 2)).toNatClampNeg), .int (M 999 (nI (i + 1)).toNatClampNeg), .ref 134], M, κ) Q := by
    exact w_callVI (i := _) i_166_963 ⟨by decide, by decide, by decide, rfl⟩ hκ (⟨rfl, by decide⟩ : isOb 134 7) (av := [.int (M 999 (nI (i + 1)).toNatClampNeg), .int (M 999 (nI (i + 2)).toNatClampNeg), .int (bI (if (M 999 (nI (i + 3)).toNatClampNeg) = 0 then false else true))]) (rest := []) rfl rfl (Nat.le_of_ble_eq_true rfl) (k1)
  refine w_if0 ((M 999 (nI (i + 3)).toNatClampNeg) = 0) i_166_955 cI0_eq ?_ ?_
  · intro h2
    refine w_push i_166_962 rfl ?_
    exact (by first | exact (K1) | (have K9 := K1; simp only [↓if_pos h2] at K9 ⊢; exact (K9)))
  · intro h3
    refine w_push i_166_958 rfl ?_
    refine w_goto i_166_959 ?_
    exact (by first | exact (K1) | (have K9 := K1; simp only [↓if_neg h3] at K9 ⊢; exact (K9)))
set_option maxRecDepth 100000 in
theorem i_166_1010 : ins 166 1010 = some (.istore 6, 1012, 6, 0, 0, 0) := rfl
set_option maxRecDepth 100000 in
theorem i_166_1012 : ins 166 1012 = some (.aload_n 2, 1013, 2, 0, 0, 0) := rfl
set_option maxRecDepth 100000 in
theorem i_166_1013 : ins 166 1013 = some (.aload_n 0, 1014, 0, 0, 0, 0) := rfl
set_option maxRecDepth 100000 in
theorem i_166_1014 : ins 166 1014 = some (.iload 5, 1016, 5, 0, 0, 0) := rfl
set_option maxRecDepth 100000 in
theorem i_166_1016 : ins 166 1016 = some (.iconst 1, 1017, 0, 0, 0, 1) := rfl
set_option maxRecDepth 100000 in
theorem i_166_1017 : ins 166 1017 = some (.iadd, 1018, 0, 0, 0, 0) := rfl
set_option maxRecDepth 100000 in
theorem i_166_1018 : ins 166 1018 = some (.iaload, 1019, 0, 0, 0, 0) := rfl
set_option maxRecDepth 100000 in
theorem i_166_1019 : ins 166 1019 = some (.invokevirtual 130, 1022, 151, 0, 2, 0) := rfl
theorem S166_1010 {Q : Ou → Prop} {M : Mem} {κ : Kp} (hκ : Rd κ)  {i : Nat} {kc : Int32} (b_i : i ≤ 100000)
    (o1 : vp_in (nI (i + 1)) (kL κ))
    (k1 : RT 151 (0, entL 151 [.ref 134, .int (M 999 (nI (i + 1)).toNatClampNeg)], [], M, κ) (fun o => ∃ v M1 κ1, o = (.inl v, M1, κ1) ∧ RT 166 (1022, [.ref 999, .ref 0, .ref 134, .ref 178, .ref 179, .int (nI i), .int kc, UU, UU], v.toList ++ [], M1, κ1) Q))
    : RT 166 (1010, [.ref 999, .ref 0, .ref 134, .ref 178, .ref 179, .int (nI i), UU, UU, UU], [.int kc], M, κ) Q := by
  refine w_store (l1 := [.ref 999, .ref 0, .ref 134, .ref 178, .ref 179, .int (nI i), .int kc, UU, UU]) i_166_1010 rfl (Nat.le_of_ble_eq_true rfl) rfl ?_
  refine w_load i_166_1012 rfl rfl ?_
  refine w_load i_166_1013 rfl rfl ?_
  refine w_load i_166_1014 rfl rfl ?_
  refine w_push i_166_1016 rfl ?_
  refine w_bin (w := (nI (i + 1))) i_166_1017 rfl (nI_add i 1) ?_
  refine w_sald i_166_1018 (o1) ?_
  exact w_callVI (i := _) i_166_1019 ⟨by decide, by decide, by decide, rfl⟩ hκ (⟨rfl, by decide⟩ : isOb 134 7) (av := [.int (M 999 (nI (i + 1)).toNatClampNeg)]) (rest := []) rfl rfl (Nat.le_of_ble_eq_true rfl) (k1)
set_option maxRecDepth 100000 in
theorem i_166_432 : ins 166 432 = some (.aload_n 2, 433, 2, 0, 0, 0) := rfl
set_option maxRecDepth 100000 in
theorem i_166_433 : ins 166 433 = some (.invokevirtual 88, 436, 100, 0, 1, 0) := rfl
theorem S166_432 {Q : Ou → Prop} {M : Mem} {κ : Kp} (hκ : Rd κ)  {i : Nat} (b_i : i ≤ 100000)
    (k1 : RT 100 (0, entL 100 [.ref 134], [], M, κ) (fun o => ∃ v M1 κ1, o = (.inl v, M1, κ1) ∧ RT 166 (436, [.ref 999, .ref 0, .ref 134, .ref 178, .ref 179, .int (nI i), UU, UU, UU], v.toList ++ [], M1, κ1) Q))
    : RT 166 (432, [.ref 999, .ref 0, .ref 134, .ref 178, .ref 179, .int (nI i), UU, UU, UU], [], M, κ) Q := by
  refine w_load i_166_432 rfl rfl ?_
  exact w_callVI (i := _) i_166_433 ⟨by decide, by decide, by decide, rfl⟩ hκ (⟨rfl, by decide⟩ : isOb 134 7) (av := []) (rest := []) rfl rfl (Nat.le_of_ble_eq_true rfl) (k1)
set_option maxRecDepth 100000 in
theorem i_166_455 : ins 166 455 = some (.aload_n 2, 456, 2, 0, 0, 0) := rfl
set_option maxRecDepth 100000 in
theorem i_166_456 : ins 166 456 = some (.aload_n 0, 457, 0, 0, 0, 0) := rfl
set_option maxRecDepth 100000 in
theorem i_166_457 : ins 166 457 = some (.iload 5, 459, 5, 0, 0, 0) := rfl
set_option maxRecDepth 100000 in
theorem i_166_459 : ins 166 459 = some (.iconst 1, 460, 0, 0, 0, 1) := rfl
set_option maxRecDepth 100000 in
theorem i_166_460 : ins 166 460 = some (.iadd, 461, 0, 0, 0, 0) := rfl
set_option maxRecDepth 100000 in
theorem i_166_461 : ins 166 461 = some (.iaload, 462, 0, 0, 0, 0) := rfl
set_option maxRecDepth 100000 in
theorem i_166_462 : ins 166 462 = some (.aload_n 0, 463, 0, 0, 0, 0) := rfl
set_option maxRecDepth 100000 in
theorem i_166_463 : ins 166 463 = some (.iload 5, 465, 5, 0, 0, 0) := rfl
set_option maxRecDepth 100000 in
theorem i_166_465 : ins 166 465 = some (.iconst 2, 466, 0, 0, 0, 2) := rfl
set_option maxRecDepth 100000 in
theorem i_166_466 : ins 166 466 = some (.iadd, 467, 0, 0, 0, 0) := rfl
set_option maxRecDepth 100000 in
theorem i_166_467 : ins 166 467 = some (.iaload, 468, 0, 0, 0, 0) := rfl
set_option maxRecDepth 100000 in
theorem i_166_468 : ins 166 468 = some (.invokevirtual 93, 471, 101, 0, 3, 0) := rfl
theorem S166_455 {Q : Ou → Prop} {M : Mem} {κ : Kp} (hκ : Rd κ)  {i : Nat} (b_i : i ≤ 100000)
    (o1 : vp_in (nI (i + 1)) (kL κ))
    (o2 : vp_in (nI (i + 2)) (kL κ))
    (k1 : RT 101 (0, entL 101 [.ref 134, .int (M 999 (nI (i + 1)).toNatClampNeg), .int (M 999 (nI (i + 2)).toNatClampNeg)], [], M, κ) (fun o => ∃ v M1 κ1, o = (.inl v, M1, κ1) ∧ RT 166 (471, [.ref 999, .ref 0, .ref 134, .ref 178, .ref 179, .int (nI i), UU, UU, UU], v.toList ++ [], M1, κ1) Q))
    : RT 166 (455, [.ref 999, .ref 0, .ref 134, .ref 178, .ref 179, .int (nI i), UU, UU, UU], [], M, κ) Q := by
  refine w_load i_166_455 rfl rfl ?_
  refine w_load i_166_456 rfl rfl ?_
  refine w_load i_166_457 rfl rfl ?_
  refine w_push i_166_459 rfl ?_
  refine w_bin (w := (nI (i + 1))) i_166_460 rfl (nI_add i 1) ?_
  refine w_sald i_166_461 (o1) ?_
  refine w_load i_166_462 rfl rfl ?_
  refine w_load i_166_463 rfl rfl ?_
  refine w_push i_166_465 rfl ?_
  refine w_bin (w := (nI (i + 2))) i_166_466 rfl (nI_add i 2) ?_
  refine w_sald i_166_467 (o2) ?_
  exact w_callVI (i := _) i_166_468 ⟨by decide, by decide, by decide, rfl⟩ hκ (⟨rfl, by decide⟩ : isOb 134 7) (av := [.int (M 999 (nI (i + 1)).toNatClampNeg), .int (M 999 (nI (i + 2)).toNatClampNeg)]) (rest := []) rfl rfl (Nat.le_of_ble_eq_true rfl) (k1)
set_option maxRecDepth 100000 in
theorem i_166_484 : ins 166 484 = some (.aload_n 2, 485, 2, 0, 0, 0) := rfl
set_option maxRecDepth 100000 in
theorem i_166_485 : ins 166 485 = some (.aload_n 0, 486, 0, 0, 0, 0) := rfl
set_option maxRecDepth 100000 in
theorem i_166_486 : ins 166 486 = some (.iload 5, 488, 5, 0, 0, 0) := rfl
set_option maxRecDepth 100000 in
theorem i_166_488 : ins 166 488 = some (.iconst 1, 489, 0, 0, 0, 1) := rfl
set_option maxRecDepth 100000 in
theorem i_166_489 : ins 166 489 = some (.iadd, 490, 0, 0, 0, 0) := rfl
set_option maxRecDepth 100000 in
theorem i_166_490 : ins 166 490 = some (.iaload, 491, 0, 0, 0, 0) := rfl
set_option maxRecDepth 100000 in
theorem i_166_491 : ins 166 491 = some (.invokevirtual 97, 494, 102, 0, 2, 0) := rfl
set_option maxRecDepth 100000 in
theorem i_166_494 : ins 166 494 = some (.if_icmp .eq 581, 497, 1075, 0, 0, 0) := rfl
set_option maxRecDepth 100000 in
theorem i_166_497 : ins 166 497 = some (.iconst 0, 498, 0, 0, 0, 0) := rfl
set_option maxRecDepth 100000 in
theorem i_166_498 : ins 166 498 = some (.ireturn, 499, 0, 0, 0, 0) := rfl
theorem S166_484 {Q : Ou → Prop} {M : Mem} {κ : Kp} (hκ : Rd κ)  {i : Nat} {aa : Int32} (b_i : i ≤ 100000)
    (o1 : vp_in (nI (i + 1)) (kL κ))
    (k1 : RT 102 (0, entL 102 [.ref 134, .int (M 999 (nI (i + 1)).toNatClampNeg)], [], M, κ) (fun o => ∃ v M1 κ1, o = (.inl v, M1, κ1) ∧ RT 166 (494, [.ref 999, .ref 0, .ref 134, .ref 178, .ref 179, .int (nI i), UU, UU, UU], v.toList ++ [.int aa], M1, κ1) Q))
    : RT 166 (484, [.ref 999, .ref 0, .ref 134, .ref 178, .ref 179, .int (nI i), UU, UU, UU], [.int aa], M, κ) Q := by
  refine w_load i_166_484 rfl rfl ?_
  refine w_load i_166_485 rfl rfl ?_
  refine w_load i_166_486 rfl rfl ?_
  refine w_push i_166_488 rfl ?_
  refine w_bin (w := (nI (i + 1))) i_166_489 rfl (nI_add i 1) ?_
  refine w_sald i_166_490 (o1) ?_
  exact w_callVI (i := _) i_166_491 ⟨by decide, by decide, by decide, rfl⟩ hκ (⟨rfl, by decide⟩ : isOb 134 7) (av := [.int (M 999 (nI (i + 1)).toNatClampNeg)]) (rest := [.int aa]) rfl rfl (Nat.le_of_ble_eq_true rfl) (k1)
theorem S166_494 {Q : Ou → Prop} {M : Mem} {κ : Kp} (hκ : Rd κ)  {i : Nat} {bb : Int32} {aa : Int32} (b_i : i ≤ 100000)
    (k1 : aa = bb → RT 166 (1075, [.ref 999, .ref 0, .ref 134, .ref 178, .ref 179, .int (nI i), UU, UU, UU], [], M, κ) Q)
    (k2 : ¬ (aa = bb) → Q (.inl (some (.int 0)), M, κ))
    : RT 166 (494, [.ref 999, .ref 0, .ref 134, .ref 178, .ref 179, .int (nI i), UU, UU, UU], [.int bb, .int aa], M, κ) Q := by
  refine w_if2 (aa = bb) i_166_494 cI_eq ?_ ?_
  · intro h1
    exact (k1 h1)
  · intro h2
    refine w_push i_166_497 rfl ?_
    exact w_iret i_166_498 (.inr ⟨rfl, rfl⟩) (k2 h2)
set_option maxRecDepth 100000 in
theorem i_166_436 : ins 166 436 = some (.goto 639, 439, 1075, 0, 0, 0) := rfl
theorem S166_436 {Q : Ou → Prop} {M : Mem} {κ : Kp} (hκ : Rd κ)  {i : Nat} (b_i : i ≤ 100000)
    (k1 : RT 166 (1075, [.ref 999, .ref 0, .ref 134, .ref 178, .ref 179, .int (nI i), UU, UU, UU], [], M, κ) Q)
    : RT 166 (436, [.ref 999, .ref 0, .ref 134, .ref 178, .ref 179, .int (nI i), UU, UU, UU], [], M, κ) Q := by
  refine w_goto i_166_436 ?_
  exact (k1)
set_option maxRecDepth 100000 in
theorem i_166_471 : ins 166 471 = some (.goto 604, 474, 1075, 0, 0, 0) := rfl
theorem S166_471 {Q : Ou → Prop} {M : Mem} {κ : Kp} (hκ : Rd κ)  {i : Nat} (b_i : i ≤ 100000)
    (k1 : RT 166 (1075, [.ref 999, .ref 0, .ref 134, .ref 178, .ref 179, .int (nI i), UU, UU, UU], [], M, κ) Q)
    : RT 166 (471, [.ref 999, .ref 0, .ref 134, .ref 178, .ref 179, .int (nI i), UU, UU, UU], [], M, κ) Q := by
  refine w_goto i_166_471 ?_
  exact (k1)
set_option maxRecDepth 100000 in
theorem i_166_204 : ins 166 204 = some (.aload_n 2, 205, 2, 0, 0, 0) := rfl
set_option maxRecDepth 100000 in
theorem i_166_205 : ins 166 205 = some (.invokevirtual 74, 208, 94, 0, 1, 0) := rfl
set_option maxRecDepth 100000 in
theorem i_166_208 : ins 166 208 = some (.iload 6, 210, 6, 0, 0, 0) := rfl
set_option maxRecDepth 100000 in
theorem i_166_210 : ins 166 210 = some (.if_icmp .eq 5, 213, 215, 0, 0, 0) := rfl
set_option maxRecDepth 100000 in
theorem i_166_213 : ins 166 213 = some (.iconst 0, 214, 0, 0, 0, 0) := rfl
set_option maxRecDepth 100000 in
theorem i_166_214 : ins 166 214 = some (.ireturn, 215, 0, 0, 0, 0) := rfl
set_option maxRecDepth 100000 in
theorem i_166_215 : ins 166 215 = some (.goto 860, 218, 1075, 0, 0, 0) := rfl
theorem S166_204 {Q : Ou → Prop} {M : Mem} {κ : Kp} (hκ : Rd κ)  {i : Nat} {kc : Int32} (b_i : i ≤ 100000) {r_205 : Int32}
    (o1 : Run 94 (0, entL 94 [.ref 134], [], M, κ) (.inl (some (.int r_205)), M, κ))
    (k1 : r_205 = kc → RT 166 (1075, [.ref 999, .ref 0, .ref 134, .ref 178, .ref 179, .int (nI i), UU, UU, UU], [], M, κ) Q)
    (k2 : ¬ (r_205 = kc) → Q (.inl (some (.int 0)), M, κ))
    : RT 166 (204, [.ref 999, .ref 0, .ref 134, .ref 178, .ref 179, .int (nI i), .int kc, UU, UU], [], M, κ) Q := by
  refine w_load i_166_204 rfl rfl ?_
  refine w_callV (i := _) i_166_205 ⟨by decide, by decide, by decide, rfl⟩ hκ (⟨rfl, by decide⟩ : isOb 134 7) (av := []) (rest := []) rfl rfl (Nat.le_of_ble_eq_true rfl) (v := some (.int r_205)) (o1) ?_
  refine w_load i_166_208 rfl rfl ?_
  refine w_if2 (r_205 = kc) i_166_210 cI_eq ?_ ?_
  · intro h1
    refine w_goto i_166_215 ?_
    exact w_weak (lle_s (lle_s (lle_s (lle_s (lle_s (lle_s (lle_u (lle_s (lle_s lle_n))))))))) (k1 h1)
  · intro h2
    refine w_push i_166_213 rfl ?_
    exact w_iret i_166_214 (.inr ⟨rfl, rfl⟩) (k2 h2)
set_option maxRecDepth 100000 in
theorem i_166_277 : ins 166 277 = some (.istore 7, 279, 7, 0, 0, 0) := rfl
set_option maxRecDepth 100000 in
theorem i_166_279 : ins 166 279 = some (.aload_n 2, 280, 2, 0, 0, 0) := rfl
set_option maxRecDepth 100000 in
theorem i_166_280 : ins 166 280 = some (.invokevirtual 74, 283, 94, 0, 1, 0) := rfl
set_option maxRecDepth 100000 in
theorem i_166_283 : ins 166 283 = some (.iload 6, 285, 6, 0, 0, 0) := rfl
set_option maxRecDepth 100000 in
theorem i_166_285 : ins 166 285 = some (.if_icmp .eq 5, 288, 290, 0, 0, 0) := rfl
set_option maxRecDepth 100000 in
theorem i_166_288 : ins 166 288 = some (.iconst 0, 289, 0, 0, 0, 0) := rfl
set_option maxRecDepth 100000 in
theorem i_166_289 : ins 166 289 = some (.ireturn, 290, 0, 0, 0, 0) := rfl
set_option maxRecDepth 100000 in
theorem i_166_290 : ins 166 290 = some (.iload 6, 292, 6, 0, 0, 0) := rfl
set_option maxRecDepth 100000 in
theorem i_166_292 : ins 166 292 = some (.ifCond .ne 15, 295, 307, 0, 0, 0) := rfl
set_option maxRecDepth 100000 in
theorem i_166_295 : ins 166 295 = some (.aload_n 3, 296, 3, 0, 0, 0) := rfl
set_option maxRecDepth 100000 in
theorem i_166_296 : ins 166 296 = some (.iconst 0, 297, 0, 0, 0, 0) := rfl
set_option maxRecDepth 100000 in
theorem i_166_297 : ins 166 297 = some (.laload, 298, 0, 0, 0, 0) := rfl
set_option maxRecDepth 100000 in
theorem i_166_298 : ins 166 298 = some (.iload 7, 300, 7, 0, 0, 0) := rfl
set_option maxRecDepth 100000 in
theorem i_166_300 : ins 166 300 = some (.i2l, 301, 0, 0, 0, 0) := rfl
set_option maxRecDepth 100000 in
theorem i_166_301 : ins 166 301 = some (.lcmp, 302, 0, 0, 0, 0) := rfl
set_option maxRecDepth 100000 in
theorem i_166_302 : ins 166 302 = some (.ifCond .eq 5, 305, 307, 0, 0, 0) := rfl
set_option maxRecDepth 100000 in
theorem i_166_305 : ins 166 305 = some (.iconst 0, 306, 0, 0, 0, 0) := rfl
set_option maxRecDepth 100000 in
theorem i_166_306 : ins 166 306 = some (.ireturn, 307, 0, 0, 0, 0) := rfl
set_option maxRecDepth 100000 in
theorem i_166_307 : ins 166 307 = some (.goto 768, 310, 1075, 0, 0, 0) := rfl
theorem S166_277 {Q : Ou → Prop} {M : Mem} {κ : Kp} (hκ : Rd κ)  {i : Nat} {kc : Int32} {bb : Int32} (b_i : i ≤ 100000) {r_280 : Int32}
    (o1 : Run 94 (0, entL 94 [.ref 134], [], M, κ) (.inl (some (.int r_280)), M, κ))
    (k1 : r_280 = kc → (((kc = 0) ∧ ((lg_cmp ((kX κ 178).toInt64) bb.toInt64) = 0)) ∨ (¬ (kc = 0))) → RT 166 (1075, [.ref 999, .ref 0, .ref 134, .ref 178, .ref 179, .int (nI i), UU, UU, UU], [], M, κ) Q)
    (k2 : r_280 = kc → kc = 0 → ¬ ((lg_cmp ((kX κ 178).toInt64) bb.toInt64) = 0) → Q (.inl (some (.int 0)), M, κ))
    (k3 : ¬ (r_280 = kc) → Q (.inl (some (.int 0)), M, κ))
    : RT 166 (277, [.ref 999, .ref 0, .ref 134, .ref 178, .ref 179, .int (nI i), .int kc, UU, UU], [.int bb], M, κ) Q := by
  refine w_store (l1 := [.ref 999, .ref 0, .ref 134, .ref 178, .ref 179, .int (nI i), .int kc, .int bb, UU]) i_166_277 rfl (Nat.le_of_ble_eq_true rfl) rfl ?_
  refine w_load i_166_279 rfl rfl ?_
  refine w_callV (i := _) i_166_280 ⟨by decide, by decide, by decide, rfl⟩ hκ (⟨rfl, by decide⟩ : isOb 134 7) (av := []) (rest := []) rfl rfl (Nat.le_of_ble_eq_true rfl) (v := some (.int r_280)) (o1) ?_
  refine w_load i_166_283 rfl rfl ?_
  refine w_if2 (r_280 = kc) i_166_285 cI_eq ?_ ?_
  · intro h1
    refine w_load i_166_290 rfl rfl ?_
    have K2 : (((kc = 0) ∧ ((lg_cmp ((kX κ 178).toInt64) bb.toInt64) = 0)) ∨ (¬ (kc = 0))) → RT 166 (307, [.ref 999, .ref 0, .ref 134, .ref 178, .ref 179, .int (nI i), .int kc, .int bb, UU], [], M, κ) Q := by
      intro h3
      refine w_goto i_166_307 ?_
      exact w_weak (lle_s (lle_s (lle_s (lle_s (lle_s (lle_s (lle_u (lle_u (lle_s lle_n))))))))) (k1 h1 h3)
    refine w_if0n (kc = 0) i_166_292 cI0_ne ?_ ?_
    · intro h4
      refine w_load i_166_295 rfl rfl ?_
      refine w_push i_166_296 rfl ?_
      refine w_lald i_166_297 hκ (⟨rfl, by decide⟩ : kd 178 = 24 ∧ 178 < 180) (vp_in_nI (n := 0) (by decide) (by decide)) ?_
      refine w_load i_166_298 rfl rfl ?_
      refine w_i2l i_166_300 ?_
      refine w_lcmp i_166_301 ?_
      refine w_if0 ((lg_cmp ((kX κ 178).toInt64) bb.toInt64) = 0) i_166_302 cI0_eq ?_ ?_
      · intro h5
        exact (by first | exact (K2 (.inl ⟨h4, h5⟩)) | (have K9 := K2 (.inl ⟨h4, h5⟩); simp only [↓if_pos h4, ↓if_pos h5] at K9 ⊢; exact (K9)))
      · intro h6
        refine w_push i_166_305 rfl ?_
        exact w_iret i_166_306 (.inr ⟨rfl, rfl⟩) (k2 h1 h4 h6)
    · intro h7
      exact (by first | exact (K2 (.inr h7)) | (have K9 := K2 (.inr h7); simp only [↓if_neg h7] at K9 ⊢; exact (K9)))
  · intro h8
    refine w_push i_166_288 rfl ?_
    exact w_iret i_166_289 (.inr ⟨rfl, rfl⟩) (k3 h8)
set_option maxRecDepth 100000 in
theorem i_166_395 : ins 166 395 = some (.istore 7, 397, 7, 0, 0, 0) := rfl
set_option maxRecDepth 100000 in
theorem i_166_397 : ins 166 397 = some (.aload_n 2, 398, 2, 0, 0, 0) := rfl
set_option maxRecDepth 100000 in
theorem i_166_398 : ins 166 398 = some (.invokevirtual 74, 401, 94, 0, 1, 0) := rfl
set_option maxRecDepth 100000 in
theorem i_166_401 : ins 166 401 = some (.iload 6, 403, 6, 0, 0, 0) := rfl
set_option maxRecDepth 100000 in
theorem i_166_403 : ins 166 403 = some (.if_icmp .eq 5, 406, 408, 0, 0, 0) := rfl
set_option maxRecDepth 100000 in
theorem i_166_406 : ins 166 406 = some (.iconst 0, 407, 0, 0, 0, 0) := rfl
set_option maxRecDepth 100000 in
theorem i_166_407 : ins 166 407 = some (.ireturn, 408, 0, 0, 0, 0) := rfl
set_option maxRecDepth 100000 in
theorem i_166_408 : ins 166 408 = some (.iload 6, 410, 6, 0, 0, 0) := rfl
set_option maxRecDepth 100000 in
theorem i_166_410 : ins 166 410 = some (.ifCond .ne 15, 413, 425, 0, 0, 0) := rfl
set_option maxRecDepth 100000 in
theorem i_166_413 : ins 166 413 = some (.aload_n 3, 414, 3, 0, 0, 0) := rfl
set_option maxRecDepth 100000 in
theorem i_166_414 : ins 166 414 = some (.iconst 0, 415, 0, 0, 0, 0) := rfl
set_option maxRecDepth 100000 in
theorem i_166_415 : ins 166 415 = some (.laload, 416, 0, 0, 0, 0) := rfl
set_option maxRecDepth 100000 in
theorem i_166_416 : ins 166 416 = some (.iload 7, 418, 7, 0, 0, 0) := rfl
set_option maxRecDepth 100000 in
theorem i_166_418 : ins 166 418 = some (.i2l, 419, 0, 0, 0, 0) := rfl
set_option maxRecDepth 100000 in
theorem i_166_419 : ins 166 419 = some (.lcmp, 420, 0, 0, 0, 0) := rfl
set_option maxRecDepth 100000 in
theorem i_166_420 : ins 166 420 = some (.ifCond .eq 5, 423, 425, 0, 0, 0) := rfl
set_option maxRecDepth 100000 in
theorem i_166_423 : ins 166 423 = some (.iconst 0, 424, 0, 0, 0, 0) := rfl
set_option maxRecDepth 100000 in
theorem i_166_424 : ins 166 424 = some (.ireturn, 425, 0, 0, 0, 0) := rfl
set_option maxRecDepth 100000 in
theorem i_166_425 : ins 166 425 = some (.goto 650, 428, 1075, 0, 0, 0) := rfl
theorem S166_395 {Q : Ou → Prop} {M : Mem} {κ : Kp} (hκ : Rd κ)  {i : Nat} {kc : Int32} {bb : Int32} (b_i : i ≤ 100000) {r_398 : Int32}
    (o1 : Run 94 (0, entL 94 [.ref 134], [], M, κ) (.inl (some (.int r_398)), M, κ))
    (k1 : r_398 = kc → (((kc = 0) ∧ ((lg_cmp ((kX κ 178).toInt64) bb.toInt64) = 0)) ∨ (¬ (kc = 0))) → RT 166 (1075, [.ref 999, .ref 0, .ref 134, .ref 178, .ref 179, .int (nI i), UU, UU, UU], [], M, κ) Q)
    (k2 : r_398 = kc → kc = 0 → ¬ ((lg_cmp ((kX κ 178).toInt64) bb.toInt64) = 0) → Q (.inl (some (.int 0)), M, κ))
    (k3 : ¬ (r_398 = kc) → Q (.inl (some (.int 0)), M, κ))
    : RT 166 (395, [.ref 999, .ref 0, .ref 134, .ref 178, .ref 179, .int (nI i), .int kc, UU, UU], [.int bb], M, κ) Q := by
  refine w_store (l1 := [.ref 999, .ref 0, .ref 134, .ref 178, .ref 179, .int (nI i), .int kc, .int bb, UU]) i_166_395 rfl (Nat.le_of_ble_eq_true rfl) rfl ?_
  refine w_load i_166_397 rfl rfl ?_
  refine w_callV (i := _) i_166_398 ⟨by decide, by decide, by decide, rfl⟩ hκ (⟨rfl, by decide⟩ : isOb 134 7) (av := []) (rest := []) rfl rfl (Nat.le_of_ble_eq_true rfl) (v := some (.int r_398)) (o1) ?_
  refine w_load i_166_401 rfl rfl ?_
  refine w_if2 (r_398 = kc) i_166_403 cI_eq ?_ ?_
  · intro h1
    refine w_load i_166_408 rfl rfl ?_
    have K2 : (((kc = 0) ∧ ((lg_cmp ((kX κ 178).toInt64) bb.toInt64) = 0)) ∨ (¬ (kc = 0))) → RT 166 (425, [.ref 999, .ref 0, .ref 134, .ref 178, .ref 179, .int (nI i), .int kc, .int bb, UU], [], M, κ) Q := by
      intro h3
      refine w_goto i_166_425 ?_
      exact w_weak (lle_s (lle_s (lle_s (lle_s (lle_s (lle_s (lle_u (lle_u (lle_s lle_n))))))))) (k1 h1 h3)
    refine w_if0n (kc = 0) i_166_410 cI0_ne ?_ ?_
    · intro h4
      refine w_load i_166_413 rfl rfl ?_
      refine w_push i_166_414 rfl ?_
      refine w_lald i_166_415 hκ (⟨rfl, by decide⟩ : kd 178 = 24 ∧ 178 < 180) (vp_in_nI (n := 0) (by decide) (by decide)) ?_
      refine w_load i_166_416 rfl rfl ?_
      refine w_i2l i_166_418 ?_
      refine w_lcmp i_166_419 ?_
      refine w_if0 ((lg_cmp ((kX κ 178).toInt64) bb.toInt64) = 0) i_166_420 cI0_eq ?_ ?_
      · intro h5
        exact (by first | exact (K2 (.inl ⟨h4, h5⟩)) | (have K9 := K2 (.inl ⟨h4, h5⟩); simp only [↓if_pos h4, ↓if_pos h5] at K9 ⊢; exact (K9)))
      · intro h6
        refine w_push i_166_423 rfl ?_
        exact w_iret i_166_424 (.inr ⟨rfl, rfl⟩) (k2 h1 h4 h6)
    · intro h7
      exact (by first | exact (K2 (.inr h7)) | (have K9 := K2 (.inr h7); simp only [↓if_neg h7] at K9 ⊢; exact (K9)))
  · intro h8
    refine w_push i_166_406 rfl ?_
    exact w_iret i_166_407 (.inr ⟨rfl, rfl⟩) (k3 h8)
set_option maxRecDepth 100000 in
theorem i_166_510 : ins 166 510 = some (.istore 7, 512, 7, 0, 0, 0) := rfl
set_option maxRecDepth 100000 in
theorem i_166_512 : ins 166 512 = some (.aload_n 2, 513, 2, 0, 0, 0) := rfl
set_option maxRecDepth 100000 in
theorem i_166_513 : ins 166 513 = some (.invokevirtual 74, 516, 94, 0, 1, 0) := rfl
set_option maxRecDepth 100000 in
theorem i_166_516 : ins 166 516 = some (.iload 6, 518, 6, 0, 0, 0) := rfl
set_option maxRecDepth 100000 in
theorem i_166_518 : ins 166 518 = some (.if_icmp .eq 5, 521, 523, 0, 0, 0) := rfl
set_option maxRecDepth 100000 in
theorem i_166_521 : ins 166 521 = some (.iconst 0, 522, 0, 0, 0, 0) := rfl
set_option maxRecDepth 100000 in
theorem i_166_522 : ins 166 522 = some (.ireturn, 523, 0, 0, 0, 0) := rfl
set_option maxRecDepth 100000 in
theorem i_166_523 : ins 166 523 = some (.iload 6, 525, 6, 0, 0, 0) := rfl
set_option maxRecDepth 100000 in
theorem i_166_525 : ins 166 525 = some (.ifCond .ne 15, 528, 540, 0, 0, 0) := rfl
set_option maxRecDepth 100000 in
theorem i_166_528 : ins 166 528 = some (.aload_n 3, 529, 3, 0, 0, 0) := rfl
set_option maxRecDepth 100000 in
theorem i_166_529 : ins 166 529 = some (.iconst 0, 530, 0, 0, 0, 0) := rfl
set_option maxRecDepth 100000 in
theorem i_166_530 : ins 166 530 = some (.laload, 531, 0, 0, 0, 0) := rfl
set_option maxRecDepth 100000 in
theorem i_166_531 : ins 166 531 = some (.iload 7, 533, 7, 0, 0, 0) := rfl
set_option maxRecDepth 100000 in
theorem i_166_533 : ins 166 533 = some (.i2l, 534, 0, 0, 0, 0) := rfl
set_option maxRecDepth 100000 in
theorem i_166_534 : ins 166 534 = some (.lcmp, 535, 0, 0, 0, 0) := rfl
set_option maxRecDepth 100000 in
theorem i_166_535 : ins 166 535 = some (.ifCond .eq 5, 538, 540, 0, 0, 0) := rfl
set_option maxRecDepth 100000 in
theorem i_166_538 : ins 166 538 = some (.iconst 0, 539, 0, 0, 0, 0) := rfl
set_option maxRecDepth 100000 in
theorem i_166_539 : ins 166 539 = some (.ireturn, 540, 0, 0, 0, 0) := rfl
set_option maxRecDepth 100000 in
theorem i_166_540 : ins 166 540 = some (.goto 535, 543, 1075, 0, 0, 0) := rfl
theorem S166_510 {Q : Ou → Prop} {M : Mem} {κ : Kp} (hκ : Rd κ)  {i : Nat} {kc : Int32} {bb : Int32} (b_i : i ≤ 100000) {r_513 : Int32}
    (o1 : Run 94 (0, entL 94 [.ref 134], [], M, κ) (.inl (some (.int r_513)), M, κ))
    (k1 : r_513 = kc → (((kc = 0) ∧ ((lg_cmp ((kX κ 178).toInt64) bb.toInt64) = 0)) ∨ (¬ (kc = 0))) → RT 166 (1075, [.ref 999, .ref 0, .ref 134, .ref 178, .ref 179, .int (nI i), UU, UU, UU], [], M, κ) Q)
    (k2 : r_513 = kc → kc = 0 → ¬ ((lg_cmp ((kX κ 178).toInt64) bb.toInt64) = 0) → Q (.inl (some (.int 0)), M, κ))
    (k3 : ¬ (r_513 = kc) → Q (.inl (some (.int 0)), M, κ))
    : RT 166 (510, [.ref 999, .ref 0, .ref 134, .ref 178, .ref 179, .int (nI i), .int kc, UU, UU], [.int bb], M, κ) Q := by
  refine w_store (l1 := [.ref 999, .ref 0, .ref 134, .ref 178, .ref 179, .int (nI i), .int kc, .int bb, UU]) i_166_510 rfl (Nat.le_of_ble_eq_true rfl) rfl ?_
  refine w_load i_166_512 rfl rfl ?_
  refine w_callV (i := _) i_166_513 ⟨by decide, by decide, by decide, rfl⟩ hκ (⟨rfl, by decide⟩ : isOb 134 7) (av := []) (rest := []) rfl rfl (Nat.le_of_ble_eq_true rfl) (v := some (.int r_513)) (o1) ?_
  refine w_load i_166_516 rfl rfl ?_
  refine w_if2 (r_513 = kc) i_166_518 cI_eq ?_ ?_
  · intro h1
    refine w_load i_166_523 rfl rfl ?_
    have K2 : (((kc = 0) ∧ ((lg_cmp ((kX κ 178).toInt64) bb.toInt64) = 0)) ∨ (¬ (kc = 0))) → RT 166 (540, [.ref 999, .ref 0, .ref 134, .ref 178, .ref 179, .int (nI i), .int kc, .int bb, UU], [], M, κ) Q := by
      intro h3
      refine w_goto i_166_540 ?_
      exact w_weak (lle_s (lle_s (lle_s (lle_s (lle_s (lle_s (lle_u (lle_u (lle_s lle_n))))))))) (k1 h1 h3)
    refine w_if0n (kc = 0) i_166_525 cI0_ne ?_ ?_
    · intro h4
      refine w_load i_166_528 rfl rfl ?_
      refine w_push i_166_529 rfl ?_
      refine w_lald i_166_530 hκ (⟨rfl, by decide⟩ : kd 178 = 24 ∧ 178 < 180) (vp_in_nI (n := 0) (by decide) (by decide)) ?_
      refine w_load i_166_531 rfl rfl ?_
      refine w_i2l i_166_533 ?_
      refine w_lcmp i_166_534 ?_
      refine w_if0 ((lg_cmp ((kX κ 178).toInt64) bb.toInt64) = 0) i_166_535 cI0_eq ?_ ?_
      · intro h5
        exact (by first | exact (K2 (.inl ⟨h4, h5⟩)) | (have K9 := K2 (.inl ⟨h4, h5⟩); simp only [↓if_pos h4, ↓if_pos h5] at K9 ⊢; exact (K9)))
      · intro h6
        refine w_push i_166_538 rfl ?_
        exact w_iret i_166_539 (.inr ⟨rfl, rfl⟩) (k2 h1 h4 h6)
    · intro h7
      exact (by first | exact (K2 (.inr h7)) | (have K9 := K2 (.inr h7); simp only [↓if_neg h7] at K9 ⊢; exact (K9)))
  · intro h8
    refine w_push i_166_521 rfl ?_
    exact w_iret i_166_522 (.inr ⟨rfl, rfl⟩) (k3 h8)
set_option maxRecDepth 100000 in
theorem i_166_554 : ins 166 554 = some (.istore 7, 556, 7, 0, 0, 0) := rfl
set_option maxRecDepth 100000 in
theorem i_166_556 : ins 166 556 = some (.aload_n 2, 557, 2, 0, 0, 0) := rfl
set_option maxRecDepth 100000 in
theorem i_166_557 : ins 166 557 = some (.invokevirtual 74, 560, 94, 0, 1, 0) := rfl
set_option maxRecDepth 100000 in
theorem i_166_560 : ins 166 560 = some (.iload 6, 562, 6, 0, 0, 0) := rfl
set_option maxRecDepth 100000 in
theorem i_166_562 : ins 166 562 = some (.if_icmp .eq 5, 565, 567, 0, 0, 0) := rfl
set_option maxRecDepth 100000 in
theorem i_166_565 : ins 166 565 = some (.iconst 0, 566, 0, 0, 0, 0) := rfl
set_option maxRecDepth 100000 in
theorem i_166_566 : ins 166 566 = some (.ireturn, 567, 0, 0, 0, 0) := rfl
set_option maxRecDepth 100000 in
theorem i_166_567 : ins 166 567 = some (.iload 6, 569, 6, 0, 0, 0) := rfl
set_option maxRecDepth 100000 in
theorem i_166_569 : ins 166 569 = some (.ifCond .ne 15, 572, 584, 0, 0, 0) := rfl
set_option maxRecDepth 100000 in
theorem i_166_572 : ins 166 572 = some (.aload_n 3, 573, 3, 0, 0, 0) := rfl
set_option maxRecDepth 100000 in
theorem i_166_573 : ins 166 573 = some (.iconst 0, 574, 0, 0, 0, 0) := rfl
set_option maxRecDepth 100000 in
theorem i_166_574 : ins 166 574 = some (.laload, 575, 0, 0, 0, 0) := rfl
set_option maxRecDepth 100000 in
theorem i_166_575 : ins 166 575 = some (.iload 7, 577, 7, 0, 0, 0) := rfl
set_option maxRecDepth 100000 in
theorem i_166_577 : ins 166 577 = some (.i2l, 578, 0, 0, 0, 0) := rfl
set_option maxRecDepth 100000 in
theorem i_166_578 : ins 166 578 = some (.lcmp, 579, 0, 0, 0, 0) := rfl
set_option maxRecDepth 100000 in
theorem i_166_579 : ins 166 579 = some (.ifCond .eq 5, 582, 584, 0, 0, 0) := rfl
set_option maxRecDepth 100000 in
theorem i_166_582 : ins 166 582 = some (.iconst 0, 583, 0, 0, 0, 0) := rfl
set_option maxRecDepth 100000 in
theorem i_166_583 : ins 166 583 = some (.ireturn, 584, 0, 0, 0, 0) := rfl
set_option maxRecDepth 100000 in
theorem i_166_584 : ins 166 584 = some (.goto 491, 587, 1075, 0, 0, 0) := rfl
theorem S166_554 {Q : Ou → Prop} {M : Mem} {κ : Kp} (hκ : Rd κ)  {i : Nat} {kc : Int32} {bb : Int32} (b_i : i ≤ 100000) {r_557 : Int32}
    (o1 : Run 94 (0, entL 94 [.ref 134], [], M, κ) (.inl (some (.int r_557)), M, κ))
    (k1 : r_557 = kc → (((kc = 0) ∧ ((lg_cmp ((kX κ 178).toInt64) bb.toInt64) = 0)) ∨ (¬ (kc = 0))) → RT 166 (1075, [.ref 999, .ref 0, .ref 134, .ref 178, .ref 179, .int (nI i), UU, UU, UU], [], M, κ) Q)
    (k2 : r_557 = kc → kc = 0 → ¬ ((lg_cmp ((kX κ 178).toInt64) bb.toInt64) = 0) → Q (.inl (some (.int 0)), M, κ))
    (k3 : ¬ (r_557 = kc) → Q (.inl (some (.int 0)), M, κ))
    : RT 166 (554, [.ref 999, .ref 0, .ref 134, .ref 178, .ref 179, .int (nI i), .int kc, UU, UU], [.int bb], M, κ) Q := by
  refine w_store (l1 := [.ref 999, .ref 0, .ref 134, .ref 178, .ref 179, .int (nI i), .int kc, .int bb, UU]) i_166_554 rfl (Nat.le_of_ble_eq_true rfl) rfl ?_
  refine w_load i_166_556 rfl rfl ?_
  refine w_callV (i := _) i_166_557 ⟨by decide, by decide, by decide, rfl⟩ hκ (⟨rfl, by decide⟩ : isOb 134 7) (av := []) (rest := []) rfl rfl (Nat.le_of_ble_eq_true rfl) (v := some (.int r_557)) (o1) ?_
  refine w_load i_166_560 rfl rfl ?_
  refine w_if2 (r_557 = kc) i_166_562 cI_eq ?_ ?_
  · intro h1
    refine w_load i_166_567 rfl rfl ?_
    have K2 : (((kc = 0) ∧ ((lg_cmp ((kX κ 178).toInt64) bb.toInt64) = 0)) ∨ (¬ (kc = 0))) → RT 166 (584, [.ref 999, .ref 0, .ref 134, .ref 178, .ref 179, .int (nI i), .int kc, .int bb, UU], [], M, κ) Q := by
      intro h3
      refine w_goto i_166_584 ?_
      exact w_weak (lle_s (lle_s (lle_s (lle_s (lle_s (lle_s (lle_u (lle_u (lle_s lle_n))))))))) (k1 h1 h3)
    refine w_if0n (kc = 0) i_166_569 cI0_ne ?_ ?_
    · intro h4
      refine w_load i_166_572 rfl rfl ?_
      refine w_push i_166_573 rfl ?_
      refine w_lald i_166_574 hκ (⟨rfl, by decide⟩ : kd 178 = 24 ∧ 178 < 180) (vp_in_nI (n := 0) (by decide) (by decide)) ?_
      refine w_load i_166_575 rfl rfl ?_
      refine w_i2l i_166_577 ?_
      refine w_lcmp i_166_578 ?_
      refine w_if0 ((lg_cmp ((kX κ 178).toInt64) bb.toInt64) = 0) i_166_579 cI0_eq ?_ ?_
      · intro h5
        exact (by first | exact (K2 (.inl ⟨h4, h5⟩)) | (have K9 := K2 (.inl ⟨h4, h5⟩); simp only [↓if_pos h4, ↓if_pos h5] at K9 ⊢; exact (K9)))
      · intro h6
        refine w_push i_166_582 rfl ?_
        exact w_iret i_166_583 (.inr ⟨rfl, rfl⟩) (k2 h1 h4 h6)
    · intro h7
      exact (by first | exact (K2 (.inr h7)) | (have K9 := K2 (.inr h7); simp only [↓if_neg h7] at K9 ⊢; exact (K9)))
  · intro h8
    refine w_push i_166_565 rfl ?_
    exact w_iret i_166_566 (.inr ⟨rfl, rfl⟩) (k3 h8)
set_option maxRecDepth 100000 in
theorem i_166_610 : ins 166 610 = some (.istore 7, 612, 7, 0, 0, 0) := rfl
set_option maxRecDepth 100000 in
theorem i_166_612 : ins 166 612 = some (.aload_n 2, 613, 2, 0, 0, 0) := rfl
set_option maxRecDepth 100000 in
theorem i_166_613 : ins 166 613 = some (.invokevirtual 74, 616, 94, 0, 1, 0) := rfl
set_option maxRecDepth 100000 in
theorem i_166_616 : ins 166 616 = some (.iload 6, 618, 6, 0, 0, 0) := rfl
set_option maxRecDepth 100000 in
theorem i_166_618 : ins 166 618 = some (.if_icmp .eq 5, 621, 623, 0, 0, 0) := rfl
set_option maxRecDepth 100000 in
theorem i_166_621 : ins 166 621 = some (.iconst 0, 622, 0, 0, 0, 0) := rfl
set_option maxRecDepth 100000 in
theorem i_166_622 : ins 166 622 = some (.ireturn, 623, 0, 0, 0, 0) := rfl
set_option maxRecDepth 100000 in
theorem i_166_623 : ins 166 623 = some (.iload 6, 625, 6, 0, 0, 0) := rfl
set_option maxRecDepth 100000 in
theorem i_166_625 : ins 166 625 = some (.ifCond .ne 15, 628, 640, 0, 0, 0) := rfl
set_option maxRecDepth 100000 in
theorem i_166_628 : ins 166 628 = some (.aload_n 3, 629, 3, 0, 0, 0) := rfl
set_option maxRecDepth 100000 in
theorem i_166_629 : ins 166 629 = some (.iconst 0, 630, 0, 0, 0, 0) := rfl
set_option maxRecDepth 100000 in
theorem i_166_630 : ins 166 630 = some (.laload, 631, 0, 0, 0, 0) := rfl
set_option maxRecDepth 100000 in
theorem i_166_631 : ins 166 631 = some (.iload 7, 633, 7, 0, 0, 0) := rfl
set_option maxRecDepth 100000 in
theorem i_166_633 : ins 166 633 = some (.i2l, 634, 0, 0, 0, 0) := rfl
set_option maxRecDepth 100000 in
theorem i_166_634 : ins 166 634 = some (.lcmp, 635, 0, 0, 0, 0) := rfl
set_option maxRecDepth 100000 in
theorem i_166_635 : ins 166 635 = some (.ifCond .eq 5, 638, 640, 0, 0, 0) := rfl
set_option maxRecDepth 100000 in
theorem i_166_638 : ins 166 638 = some (.iconst 0, 639, 0, 0, 0, 0) := rfl
set_option maxRecDepth 100000 in
theorem i_166_639 : ins 166 639 = some (.ireturn, 640, 0, 0, 0, 0) := rfl
set_option maxRecDepth 100000 in
theorem i_166_640 : ins 166 640 = some (.goto 435, 643, 1075, 0, 0, 0) := rfl
theorem S166_610 {Q : Ou → Prop} {M : Mem} {κ : Kp} (hκ : Rd κ)  {i : Nat} {kc : Int32} {bb : Int32} (b_i : i ≤ 100000) {r_613 : Int32}
    (o1 : Run 94 (0, entL 94 [.ref 134], [], M, κ) (.inl (some (.int r_613)), M, κ))
    (k1 : r_613 = kc → (((kc = 0) ∧ ((lg_cmp ((kX κ 178).toInt64) bb.toInt64) = 0)) ∨ (¬ (kc = 0))) → RT 166 (1075, [.ref 999, .ref 0, .ref 134, .ref 178, .ref 179, .int (nI i), UU, UU, UU], [], M, κ) Q)
    (k2 : r_613 = kc → kc = 0 → ¬ ((lg_cmp ((kX κ 178).toInt64) bb.toInt64) = 0) → Q (.inl (some (.int 0)), M, κ))
    (k3 : ¬ (r_613 = kc) → Q (.inl (some (.int 0)), M, κ))
    : RT 166 (610, [.ref 999, .ref 0, .ref 134, .ref 178, .ref 179, .int (nI i), .int kc, UU, UU], [.int bb], M, κ) Q := by
  refine w_store (l1 := [.ref 999, .ref 0, .ref 134, .ref 178, .ref 179, .int (nI i), .int kc, .int bb, UU]) i_166_610 rfl (Nat.le_of_ble_eq_true rfl) rfl ?_
  refine w_load i_166_612 rfl rfl ?_
  refine w_callV (i := _) i_166_613 ⟨by decide, by decide, by decide, rfl⟩ hκ (⟨rfl, by decide⟩ : isOb 134 7) (av := []) (rest := []) rfl rfl (Nat.le_of_ble_eq_true rfl) (v := some (.int r_613)) (o1) ?_
  refine w_load i_166_616 rfl rfl ?_
  refine w_if2 (r_613 = kc) i_166_618 cI_eq ?_ ?_
  · intro h1
    refine w_load i_166_623 rfl rfl ?_
    have K2 : (((kc = 0) ∧ ((lg_cmp ((kX κ 178).toInt64) bb.toInt64) = 0)) ∨ (¬ (kc = 0))) → RT 166 (640, [.ref 999, .ref 0, .ref 134, .ref 178, .ref 179, .int (nI i), .int kc, .int bb, UU], [], M, κ) Q := by
      intro h3
      refine w_goto i_166_640 ?_
      exact w_weak (lle_s (lle_s (lle_s (lle_s (lle_s (lle_s (lle_u (lle_u (lle_s lle_n))))))))) (k1 h1 h3)
    refine w_if0n (kc = 0) i_166_625 cI0_ne ?_ ?_
    · intro h4
      refine w_load i_166_628 rfl rfl ?_
      refine w_push i_166_629 rfl ?_
      refine w_lald i_166_630 hκ (⟨rfl, by decide⟩ : kd 178 = 24 ∧ 178 < 180) (vp_in_nI (n := 0) (by decide) (by decide)) ?_
      refine w_load i_166_631 rfl rfl ?_
      refine w_i2l i_166_633 ?_
      refine w_lcmp i_166_634 ?_
      refine w_if0 ((lg_cmp ((kX κ 178).toInt64) bb.toInt64) = 0) i_166_635 cI0_eq ?_ ?_
      · intro h5
        exact (by first | exact (K2 (.inl ⟨h4, h5⟩)) | (have K9 := K2 (.inl ⟨h4, h5⟩); simp only [↓if_pos h4, ↓if_pos h5] at K9 ⊢; exact (K9)))
      · intro h6
        refine w_push i_166_638 rfl ?_
        exact w_iret i_166_639 (.inr ⟨rfl, rfl⟩) (k2 h1 h4 h6)
    · intro h7
      exact (by first | exact (K2 (.inr h7)) | (have K9 := K2 (.inr h7); simp only [↓if_neg h7] at K9 ⊢; exact (K9)))
  · intro h8
    refine w_push i_166_621 rfl ?_
    exact w_iret i_166_622 (.inr ⟨rfl, rfl⟩) (k3 h8)
set_option maxRecDepth 100000 in
theorem i_166_666 : ins 166 666 = some (.istore 7, 668, 7, 0, 0, 0) := rfl
set_option maxRecDepth 100000 in
theorem i_166_668 : ins 166 668 = some (.aload_n 2, 669, 2, 0, 0, 0) := rfl
set_option maxRecDepth 100000 in
theorem i_166_669 : ins 166 669 = some (.invokevirtual 74, 672, 94, 0, 1, 0) := rfl
set_option maxRecDepth 100000 in
theorem i_166_672 : ins 166 672 = some (.iload 6, 674, 6, 0, 0, 0) := rfl
set_option maxRecDepth 100000 in
theorem i_166_674 : ins 166 674 = some (.if_icmp .eq 5, 677, 679, 0, 0, 0) := rfl
set_option maxRecDepth 100000 in
theorem i_166_677 : ins 166 677 = some (.iconst 0, 678, 0, 0, 0, 0) := rfl
set_option maxRecDepth 100000 in
theorem i_166_678 : ins 166 678 = some (.ireturn, 679, 0, 0, 0, 0) := rfl
set_option maxRecDepth 100000 in
theorem i_166_679 : ins 166 679 = some (.iload 6, 681, 6, 0, 0, 0) := rfl
set_option maxRecDepth 100000 in
theorem i_166_681 : ins 166 681 = some (.ifCond .ne 15, 684, 696, 0, 0, 0) := rfl
set_option maxRecDepth 100000 in
theorem i_166_684 : ins 166 684 = some (.aload_n 3, 685, 3, 0, 0, 0) := rfl
set_option maxRecDepth 100000 in
theorem i_166_685 : ins 166 685 = some (.iconst 0, 686, 0, 0, 0, 0) := rfl
set_option maxRecDepth 100000 in
theorem i_166_686 : ins 166 686 = some (.laload, 687, 0, 0, 0, 0) := rfl
set_option maxRecDepth 100000 in
theorem i_166_687 : ins 166 687 = some (.iload 7, 689, 7, 0, 0, 0) := rfl
set_option maxRecDepth 100000 in
theorem i_166_689 : ins 166 689 = some (.i2l, 690, 0, 0, 0, 0) := rfl
set_option maxRecDepth 100000 in
theorem i_166_690 : ins 166 690 = some (.lcmp, 691, 0, 0, 0, 0) := rfl
set_option maxRecDepth 100000 in
theorem i_166_691 : ins 166 691 = some (.ifCond .eq 5, 694, 696, 0, 0, 0) := rfl
set_option maxRecDepth 100000 in
theorem i_166_694 : ins 166 694 = some (.iconst 0, 695, 0, 0, 0, 0) := rfl
set_option maxRecDepth 100000 in
theorem i_166_695 : ins 166 695 = some (.ireturn, 696, 0, 0, 0, 0) := rfl
set_option maxRecDepth 100000 in
theorem i_166_696 : ins 166 696 = some (.goto 379, 699, 1075, 0, 0, 0) := rfl
theorem S166_666 {Q : Ou → Prop} {M : Mem} {κ : Kp} (hκ : Rd κ)  {i : Nat} {kc : Int32} {bb : Int32} (b_i : i ≤ 100000) {r_669 : Int32}
    (o1 : Run 94 (0, entL 94 [.ref 134], [], M, κ) (.inl (some (.int r_669)), M, κ))
    (k1 : r_669 = kc → (((kc = 0) ∧ ((lg_cmp ((kX κ 178).toInt64) bb.toInt64) = 0)) ∨ (¬ (kc = 0))) → RT 166 (1075, [.ref 999, .ref 0, .ref 134, .ref 178, .ref 179, .int (nI i), UU, UU, UU], [], M, κ) Q)
    (k2 : r_669 = kc → kc = 0 → ¬ ((lg_cmp ((kX κ 178).toInt64) bb.toInt64) = 0) → Q (.inl (some (.int 0)), M, κ))
    (k3 : ¬ (r_669 = kc) → Q (.inl (some (.int 0)), M, κ))
    : RT 166 (666, [.ref 999, .ref 0, .ref 134, .ref 178, .ref 179, .int (nI i), .int kc, UU, UU], [.int bb], M, κ) Q := by
  refine w_store (l1 := [.ref 999, .ref 0, .ref 134, .ref 178, .ref 179, .int (nI i), .int kc, .int bb, UU]) i_166_666 rfl (Nat.le_of_ble_eq_true rfl) rfl ?_
  refine w_load i_166_668 rfl rfl ?_
  refine w_callV (i := _) i_166_669 ⟨by decide, by decide, by decide, rfl⟩ hκ (⟨rfl, by decide⟩ : isOb 134 7) (av := []) (rest := []) rfl rfl (Nat.le_of_ble_eq_true rfl) (v := some (.int r_669)) (o1) ?_
  refine w_load i_166_672 rfl rfl ?_
  refine w_if2 (r_669 = kc) i_166_674 cI_eq ?_ ?_
  · intro h1
    refine w_load i_166_679 rfl rfl ?_
    have K2 : (((kc = 0) ∧ ((lg_cmp ((kX κ 178).toInt64) bb.toInt64) = 0)) ∨ (¬ (kc = 0))) → RT 166 (696, [.ref 999, .ref 0, .ref 134, .ref 178, .ref 179, .int (nI i), .int kc, .int bb, UU], [], M, κ) Q := by
      intro h3
      refine w_goto i_166_696 ?_
      exact w_weak (lle_s (lle_s (lle_s (lle_s (lle_s (lle_s (lle_u (lle_u (lle_s lle_n))))))))) (k1 h1 h3)
    refine w_if0n (kc = 0) i_166_681 cI0_ne ?_ ?_
    · intro h4
      refine w_load i_166_684 rfl rfl ?_
      refine w_push i_166_685 rfl ?_
      refine w_lald i_166_686 hκ (⟨rfl, by decide⟩ : kd 178 = 24 ∧ 178 < 180) (vp_in_nI (n := 0) (by decide) (by decide)) ?_
      refine w_load i_166_687 rfl rfl ?_
      refine w_i2l i_166_689 ?_
      refine w_lcmp i_166_690 ?_
      refine w_if0 ((lg_cmp ((kX κ 178).toInt64) bb.toInt64) = 0) i_166_691 cI0_eq ?_ ?_
      · intro h5
        exact (by first | exact (K2 (.inl ⟨h4, h5⟩)) | (have K9 := K2 (.inl ⟨h4, h5⟩); simp only [↓if_pos h4, ↓if_pos h5] at K9 ⊢; exact (K9)))
      · intro h6
        refine w_push i_166_694 rfl ?_
        exact w_iret i_166_695 (.inr ⟨rfl, rfl⟩) (k2 h1 h4 h6)
    · intro h7
      exact (by first | exact (K2 (.inr h7)) | (have K9 := K2 (.inr h7); simp only [↓if_neg h7] at K9 ⊢; exact (K9)))
  · intro h8
    refine w_push i_166_677 rfl ?_
    exact w_iret i_166_678 (.inr ⟨rfl, rfl⟩) (k3 h8)
set_option maxRecDepth 100000 in
theorem i_166_722 : ins 166 722 = some (.istore 7, 724, 7, 0, 0, 0) := rfl
set_option maxRecDepth 100000 in
theorem i_166_724 : ins 166 724 = some (.aload_n 2, 725, 2, 0, 0, 0) := rfl
set_option maxRecDepth 100000 in
theorem i_166_725 : ins 166 725 = some (.invokevirtual 74, 728, 94, 0, 1, 0) := rfl
set_option maxRecDepth 100000 in
theorem i_166_728 : ins 166 728 = some (.iload 6, 730, 6, 0, 0, 0) := rfl
set_option maxRecDepth 100000 in
theorem i_166_730 : ins 166 730 = some (.if_icmp .eq 5, 733, 735, 0, 0, 0) := rfl
set_option maxRecDepth 100000 in
theorem i_166_733 : ins 166 733 = some (.iconst 0, 734, 0, 0, 0, 0) := rfl
set_option maxRecDepth 100000 in
theorem i_166_734 : ins 166 734 = some (.ireturn, 735, 0, 0, 0, 0) := rfl
set_option maxRecDepth 100000 in
theorem i_166_735 : ins 166 735 = some (.iload 6, 737, 6, 0, 0, 0) := rfl
set_option maxRecDepth 100000 in
theorem i_166_737 : ins 166 737 = some (.ifCond .ne 15, 740, 752, 0, 0, 0) := rfl
set_option maxRecDepth 100000 in
theorem i_166_740 : ins 166 740 = some (.aload_n 3, 741, 3, 0, 0, 0) := rfl
set_option maxRecDepth 100000 in
theorem i_166_741 : ins 166 741 = some (.iconst 0, 742, 0, 0, 0, 0) := rfl
set_option maxRecDepth 100000 in
theorem i_166_742 : ins 166 742 = some (.laload, 743, 0, 0, 0, 0) := rfl
set_option maxRecDepth 100000 in
theorem i_166_743 : ins 166 743 = some (.iload 7, 745, 7, 0, 0, 0) := rfl
set_option maxRecDepth 100000 in
theorem i_166_745 : ins 166 745 = some (.i2l, 746, 0, 0, 0, 0) := rfl
set_option maxRecDepth 100000 in
theorem i_166_746 : ins 166 746 = some (.lcmp, 747, 0, 0, 0, 0) := rfl
set_option maxRecDepth 100000 in
theorem i_166_747 : ins 166 747 = some (.ifCond .eq 5, 750, 752, 0, 0, 0) := rfl
set_option maxRecDepth 100000 in
theorem i_166_750 : ins 166 750 = some (.iconst 0, 751, 0, 0, 0, 0) := rfl
set_option maxRecDepth 100000 in
theorem i_166_751 : ins 166 751 = some (.ireturn, 752, 0, 0, 0, 0) := rfl
set_option maxRecDepth 100000 in
theorem i_166_752 : ins 166 752 = some (.goto 323, 755, 1075, 0, 0, 0) := rfl
theorem S166_722 {Q : Ou → Prop} {M : Mem} {κ : Kp} (hκ : Rd κ)  {i : Nat} {kc : Int32} {bb : Int32} (b_i : i ≤ 100000) {r_725 : Int32}
    (o1 : Run 94 (0, entL 94 [.ref 134], [], M, κ) (.inl (some (.int r_725)), M, κ))
    (k1 : r_725 = kc → (((kc = 0) ∧ ((lg_cmp ((kX κ 178).toInt64) bb.toInt64) = 0)) ∨ (¬ (kc = 0))) → RT 166 (1075, [.ref 999, .ref 0, .ref 134, .ref 178, .ref 179, .int (nI i), UU, UU, UU], [], M, κ) Q)
    (k2 : r_725 = kc → kc = 0 → ¬ ((lg_cmp ((kX κ 178).toInt64) bb.toInt64) = 0) → Q (.inl (some (.int 0)), M, κ))
    (k3 : ¬ (r_725 = kc) → Q (.inl (some (.int 0)), M, κ))
    : RT 166 (722, [.ref 999, .ref 0, .ref 134, .ref 178, .ref 179, .int (nI i), .int kc, UU, UU], [.int bb], M, κ) Q := by
  refine w_store (l1 := [.ref 999, .ref 0, .ref 134, .ref 178, .ref 179, .int (nI i), .int kc, .int bb, UU]) i_166_722 rfl (Nat.le_of_ble_eq_true rfl) rfl ?_
  refine w_load i_166_724 rfl rfl ?_
  refine w_callV (i := _) i_166_725 ⟨by decide, by decide, by decide, rfl⟩ hκ (⟨rfl, by decide⟩ : isOb 134 7) (av := []) (rest := []) rfl rfl (Nat.le_of_ble_eq_true rfl) (v := some (.int r_725)) (o1) ?_
  refine w_load i_166_728 rfl rfl ?_
  refine w_if2 (r_725 = kc) i_166_730 cI_eq ?_ ?_
  · intro h1
    refine w_load i_166_735 rfl rfl ?_
    have K2 : (((kc = 0) ∧ ((lg_cmp ((kX κ 178).toInt64) bb.toInt64) = 0)) ∨ (¬ (kc = 0))) → RT 166 (752, [.ref 999, .ref 0, .ref 134, .ref 178, .ref 179, .int (nI i), .int kc, .int bb, UU], [], M, κ) Q := by
      intro h3
      refine w_goto i_166_752 ?_
      exact w_weak (lle_s (lle_s (lle_s (lle_s (lle_s (lle_s (lle_u (lle_u (lle_s lle_n))))))))) (k1 h1 h3)
    refine w_if0n (kc = 0) i_166_737 cI0_ne ?_ ?_
    · intro h4
      refine w_load i_166_740 rfl rfl ?_
      refine w_push i_166_741 rfl ?_
      refine w_lald i_166_742 hκ (⟨rfl, by decide⟩ : kd 178 = 24 ∧ 178 < 180) (vp_in_nI (n := 0) (by decide) (by decide)) ?_
      refine w_load i_166_743 rfl rfl ?_
      refine w_i2l i_166_745 ?_
      refine w_lcmp i_166_746 ?_
      refine w_if0 ((lg_cmp ((kX κ 178).toInt64) bb.toInt64) = 0) i_166_747 cI0_eq ?_ ?_
      · intro h5
        exact (by first | exact (K2 (.inl ⟨h4, h5⟩)) | (have K9 := K2 (.inl ⟨h4, h5⟩); simp only [↓if_pos h4, ↓if_pos h5] at K9 ⊢; exact (K9)))
      · intro h6
        refine w_push i_166_750 rfl ?_
        exact w_iret i_166_751 (.inr ⟨rfl, rfl⟩) (k2 h1 h4 h6)
    · intro h7
      exact (by first | exact (K2 (.inr h7)) | (have K9 := K2 (.inr h7); simp only [↓if_neg h7] at K9 ⊢; exact (K9)))
  · intro h8
    refine w_push i_166_733 rfl ?_
    exact w_iret i_166_734 (.inr ⟨rfl, rfl⟩) (k3 h8)
set_option maxRecDepth 100000 in
theorem i_166_790 : ins 166 790 = some (.istore 7, 792, 7, 0, 0, 0) := rfl
set_option maxRecDepth 100000 in
theorem i_166_792 : ins 166 792 = some (.aload_n 2, 793, 2, 0, 0, 0) := rfl
set_option maxRecDepth 100000 in
theorem i_166_793 : ins 166 793 = some (.invokevirtual 74, 796, 94, 0, 1, 0) := rfl
set_option maxRecDepth 100000 in
theorem i_166_796 : ins 166 796 = some (.iload 6, 798, 6, 0, 0, 0) := rfl
set_option maxRecDepth 100000 in
theorem i_166_798 : ins 166 798 = some (.if_icmp .eq 5, 801, 803, 0, 0, 0) := rfl
set_option maxRecDepth 100000 in
theorem i_166_801 : ins 166 801 = some (.iconst 0, 802, 0, 0, 0, 0) := rfl
set_option maxRecDepth 100000 in
theorem i_166_802 : ins 166 802 = some (.ireturn, 803, 0, 0, 0, 0) := rfl
set_option maxRecDepth 100000 in
theorem i_166_803 : ins 166 803 = some (.iload 6, 805, 6, 0, 0, 0) := rfl
set_option maxRecDepth 100000 in
theorem i_166_805 : ins 166 805 = some (.ifCond .ne 15, 808, 820, 0, 0, 0) := rfl
set_option maxRecDepth 100000 in
theorem i_166_808 : ins 166 808 = some (.aload_n 3, 809, 3, 0, 0, 0) := rfl
set_option maxRecDepth 100000 in
theorem i_166_809 : ins 166 809 = some (.iconst 0, 810, 0, 0, 0, 0) := rfl
set_option maxRecDepth 100000 in
theorem i_166_810 : ins 166 810 = some (.laload, 811, 0, 0, 0, 0) := rfl
set_option maxRecDepth 100000 in
theorem i_166_811 : ins 166 811 = some (.iload 7, 813, 7, 0, 0, 0) := rfl
set_option maxRecDepth 100000 in
theorem i_166_813 : ins 166 813 = some (.i2l, 814, 0, 0, 0, 0) := rfl
set_option maxRecDepth 100000 in
theorem i_166_814 : ins 166 814 = some (.lcmp, 815, 0, 0, 0, 0) := rfl
set_option maxRecDepth 100000 in
theorem i_166_815 : ins 166 815 = some (.ifCond .eq 5, 818, 820, 0, 0, 0) := rfl
set_option maxRecDepth 100000 in
theorem i_166_818 : ins 166 818 = some (.iconst 0, 819, 0, 0, 0, 0) := rfl
set_option maxRecDepth 100000 in
theorem i_166_819 : ins 166 819 = some (.ireturn, 820, 0, 0, 0, 0) := rfl
set_option maxRecDepth 100000 in
theorem i_166_820 : ins 166 820 = some (.goto 255, 823, 1075, 0, 0, 0) := rfl
theorem S166_790 {Q : Ou → Prop} {M : Mem} {κ : Kp} (hκ : Rd κ)  {i : Nat} {kc : Int32} {bb : Int32} (b_i : i ≤ 100000) {r_793 : Int32}
    (o1 : Run 94 (0, entL 94 [.ref 134], [], M, κ) (.inl (some (.int r_793)), M, κ))
    (k1 : r_793 = kc → (((kc = 0) ∧ ((lg_cmp ((kX κ 178).toInt64) bb.toInt64) = 0)) ∨ (¬ (kc = 0))) → RT 166 (1075, [.ref 999, .ref 0, .ref 134, .ref 178, .ref 179, .int (nI i), UU, UU, UU], [], M, κ) Q)
    (k2 : r_793 = kc → kc = 0 → ¬ ((lg_cmp ((kX κ 178).toInt64) bb.toInt64) = 0) → Q (.inl (some (.int 0)), M, κ))
    (k3 : ¬ (r_793 = kc) → Q (.inl (some (.int 0)), M, κ))
    : RT 166 (790, [.ref 999, .ref 0, .ref 134, .ref 178, .ref 179, .int (nI i), .int kc, UU, UU], [.int bb], M, κ) Q := by
  refine w_store (l1 := [.ref 999, .ref 0, .ref 134, .ref 178, .ref 179, .int (nI i), .int kc, .int bb, UU]) i_166_790 rfl (Nat.le_of_ble_eq_true rfl) rfl ?_
  refine w_load i_166_792 rfl rfl ?_
  refine w_callV (i := _) i_166_793 ⟨by decide, by decide, by decide, rfl⟩ hκ (⟨rfl, by decide⟩ : isOb 134 7) (av := []) (rest := []) rfl rfl (Nat.le_of_ble_eq_true rfl) (v := some (.int r_793)) (o1) ?_
  refine w_load i_166_796 rfl rfl ?_
  refine w_if2 (r_793 = kc) i_166_798 cI_eq ?_ ?_
  · intro h1
    refine w_load i_166_803 rfl rfl ?_
    have K2 : (((kc = 0) ∧ ((lg_cmp ((kX κ 178).toInt64) bb.toInt64) = 0)) ∨ (¬ (kc = 0))) → RT 166 (820, [.ref 999, .ref 0, .ref 134, .ref 178, .ref 179, .int (nI i), .int kc, .int bb, UU], [], M, κ) Q := by
      intro h3
      refine w_goto i_166_820 ?_
      exact w_weak (lle_s (lle_s (lle_s (lle_s (lle_s (lle_s (lle_u (lle_u (lle_s lle_n))))))))) (k1 h1 h3)
    refine w_if0n (kc = 0) i_166_805 cI0_ne ?_ ?_
    · intro h4
      refine w_load i_166_808 rfl rfl ?_
      refine w_push i_166_809 rfl ?_
      refine w_lald i_166_810 hκ (⟨rfl, by decide⟩ : kd 178 = 24 ∧ 178 < 180) (vp_in_nI (n := 0) (by decide) (by decide)) ?_
      refine w_load i_166_811 rfl rfl ?_
      refine w_i2l i_166_813 ?_
      refine w_lcmp i_166_814 ?_
      refine w_if0 ((lg_cmp ((kX κ 178).toInt64) bb.toInt64) = 0) i_166_815 cI0_eq ?_ ?_
      · intro h5
        exact (by first | exact (K2 (.inl ⟨h4, h5⟩)) | (have K9 := K2 (.inl ⟨h4, h5⟩); simp only [↓if_pos h4, ↓if_pos h5] at K9 ⊢; exact (K9)))
      · intro h6
        refine w_push i_166_818 rfl ?_
        exact w_iret i_166_819 (.inr ⟨rfl, rfl⟩) (k2 h1 h4 h6)
    · intro h7
      exact (by first | exact (K2 (.inr h7)) | (have K9 := K2 (.inr h7); simp only [↓if_neg h7] at K9 ⊢; exact (K9)))
  · intro h8
    refine w_push i_166_801 rfl ?_
    exact w_iret i_166_802 (.inr ⟨rfl, rfl⟩) (k3 h8)
set_option maxRecDepth 100000 in
theorem i_166_870 : ins 166 870 = some (.istore 7, 872, 7, 0, 0, 0) := rfl
set_option maxRecDepth 100000 in
theorem i_166_872 : ins 166 872 = some (.aload_n 2, 873, 2, 0, 0, 0) := rfl
set_option maxRecDepth 100000 in
theorem i_166_873 : ins 166 873 = some (.invokevirtual 74, 876, 94, 0, 1, 0) := rfl
set_option maxRecDepth 100000 in
theorem i_166_876 : ins 166 876 = some (.iload 6, 878, 6, 0, 0, 0) := rfl
set_option maxRecDepth 100000 in
theorem i_166_878 : ins 166 878 = some (.if_icmp .eq 5, 881, 883, 0, 0, 0) := rfl
set_option maxRecDepth 100000 in
theorem i_166_881 : ins 166 881 = some (.iconst 0, 882, 0, 0, 0, 0) := rfl
set_option maxRecDepth 100000 in
theorem i_166_882 : ins 166 882 = some (.ireturn, 883, 0, 0, 0, 0) := rfl
set_option maxRecDepth 100000 in
theorem i_166_883 : ins 166 883 = some (.iload 6, 885, 6, 0, 0, 0) := rfl
set_option maxRecDepth 100000 in
theorem i_166_885 : ins 166 885 = some (.ifCond .ne 15, 888, 900, 0, 0, 0) := rfl
set_option maxRecDepth 100000 in
theorem i_166_888 : ins 166 888 = some (.aload_n 3, 889, 3, 0, 0, 0) := rfl
set_option maxRecDepth 100000 in
theorem i_166_889 : ins 166 889 = some (.iconst 0, 890, 0, 0, 0, 0) := rfl
set_option maxRecDepth 100000 in
theorem i_166_890 : ins 166 890 = some (.laload, 891, 0, 0, 0, 0) := rfl
set_option maxRecDepth 100000 in
theorem i_166_891 : ins 166 891 = some (.iload 7, 893, 7, 0, 0, 0) := rfl
set_option maxRecDepth 100000 in
theorem i_166_893 : ins 166 893 = some (.i2l, 894, 0, 0, 0, 0) := rfl
set_option maxRecDepth 100000 in
theorem i_166_894 : ins 166 894 = some (.lcmp, 895, 0, 0, 0, 0) := rfl
set_option maxRecDepth 100000 in
theorem i_166_895 : ins 166 895 = some (.ifCond .eq 5, 898, 900, 0, 0, 0) := rfl
set_option maxRecDepth 100000 in
theorem i_166_898 : ins 166 898 = some (.iconst 0, 899, 0, 0, 0, 0) := rfl
set_option maxRecDepth 100000 in
theorem i_166_899 : ins 166 899 = some (.ireturn, 900, 0, 0, 0, 0) := rfl
set_option maxRecDepth 100000 in
theorem i_166_900 : ins 166 900 = some (.goto 175, 903, 1075, 0, 0, 0) := rfl
theorem S166_870 {Q : Ou → Prop} {M : Mem} {κ : Kp} (hκ : Rd κ)  {i : Nat} {kc : Int32} {bb : Int32} (b_i : i ≤ 100000) {r_873 : Int32}
    (o1 : Run 94 (0, entL 94 [.ref 134], [], M, κ) (.inl (some (.int r_873)), M, κ))
    (k1 : r_873 = kc → (((kc = 0) ∧ ((lg_cmp ((kX κ 178).toInt64) bb.toInt64) = 0)) ∨ (¬ (kc = 0))) → RT 166 (1075, [.ref 999, .ref 0, .ref 134, .ref 178, .ref 179, .int (nI i), UU, UU, UU], [], M, κ) Q)
    (k2 : r_873 = kc → kc = 0 → ¬ ((lg_cmp ((kX κ 178).toInt64) bb.toInt64) = 0) → Q (.inl (some (.int 0)), M, κ))
    (k3 : ¬ (r_873 = kc) → Q (.inl (some (.int 0)), M, κ))
    : RT 166 (870, [.ref 999, .ref 0, .ref 134, .ref 178, .ref 179, .int (nI i), .int kc, UU, UU], [.int bb], M, κ) Q := by
  refine w_store (l1 := [.ref 999, .ref 0, .ref 134, .ref 178, .ref 179, .int (nI i), .int kc, .int bb, UU]) i_166_870 rfl (Nat.le_of_ble_eq_true rfl) rfl ?_
  refine w_load i_166_872 rfl rfl ?_
  refine w_callV (i := _) i_166_873 ⟨by decide, by decide, by decide, rfl⟩ hκ (⟨rfl, by decide⟩ : isOb 134 7) (av := []) (rest := []) rfl rfl (Nat.le_of_ble_eq_true rfl) (v := some (.int r_873)) (o1) ?_
  refine w_load i_166_876 rfl rfl ?_
  refine w_if2 (r_873 = kc) i_166_878 cI_eq ?_ ?_
  · intro h1
    refine w_load i_166_883 rfl rfl ?_
    have K2 : (((kc = 0) ∧ ((lg_cmp ((kX κ 178).toInt64) bb.toInt64) = 0)) ∨ (¬ (kc = 0))) → RT 166 (900, [.ref 999, .ref 0, .ref 134, .ref 178, .ref 179, .int (nI i), .int kc, .int bb, UU], [], M, κ) Q := by
      intro h3
      refine w_goto i_166_900 ?_
      exact w_weak (lle_s (lle_s (lle_s (lle_s (lle_s (lle_s (lle_u (lle_u (lle_s lle_n))))))))) (k1 h1 h3)
    refine w_if0n (kc = 0) i_166_885 cI0_ne ?_ ?_
    · intro h4
      refine w_load i_166_888 rfl rfl ?_
      refine w_push i_166_889 rfl ?_
      refine w_lald i_166_890 hκ (⟨rfl, by decide⟩ : kd 178 = 24 ∧ 178 < 180) (vp_in_nI (n := 0) (by decide) (by decide)) ?_
      refine w_load i_166_891 rfl rfl ?_
      refine w_i2l i_166_893 ?_
      refine w_lcmp i_166_894 ?_
      refine w_if0 ((lg_cmp ((kX κ 178).toInt64) bb.toInt64) = 0) i_166_895 cI0_eq ?_ ?_
      · intro h5
        exact (by first | exact (K2 (.inl ⟨h4, h5⟩)) | (have K9 := K2 (.inl ⟨h4, h5⟩); simp only [↓if_pos h4, ↓if_pos h5] at K9 ⊢; exact (K9)))
      · intro h6
        refine w_push i_166_898 rfl ?_
        exact w_iret i_166_899 (.inr ⟨rfl, rfl⟩) (k2 h1 h4 h6)
    · intro h7
      exact (by first | exact (K2 (.inr h7)) | (have K9 := K2 (.inr h7); simp only [↓if_neg h7] at K9 ⊢; exact (K9)))
  · intro h8
    refine w_push i_166_881 rfl ?_
    exact w_iret i_166_882 (.inr ⟨rfl, rfl⟩) (k3 h8)
set_option maxRecDepth 100000 in
theorem i_166_966 : ins 166 966 = some (.lstore 7, 968, 7, 0, 0, 0) := rfl
set_option maxRecDepth 100000 in
theorem i_166_968 : ins 166 968 = some (.aload_n 2, 969, 2, 0, 0, 0) := rfl
set_option maxRecDepth 100000 in
theorem i_166_969 : ins 166 969 = some (.invokevirtual 74, 972, 94, 0, 1, 0) := rfl
set_option maxRecDepth 100000 in
theorem i_166_972 : ins 166 972 = some (.iload 6, 974, 6, 0, 0, 0) := rfl
set_option maxRecDepth 100000 in
theorem i_166_974 : ins 166 974 = some (.if_icmp .eq 5, 977, 979, 0, 0, 0) := rfl
set_option maxRecDepth 100000 in
theorem i_166_977 : ins 166 977 = some (.iconst 0, 978, 0, 0, 0, 0) := rfl
set_option maxRecDepth 100000 in
theorem i_166_978 : ins 166 978 = some (.ireturn, 979, 0, 0, 0, 0) := rfl
set_option maxRecDepth 100000 in
theorem i_166_979 : ins 166 979 = some (.iload 6, 981, 6, 0, 0, 0) := rfl
set_option maxRecDepth 100000 in
theorem i_166_981 : ins 166 981 = some (.ifCond .ne 14, 984, 995, 0, 0, 0) := rfl
set_option maxRecDepth 100000 in
theorem i_166_984 : ins 166 984 = some (.aload_n 3, 985, 3, 0, 0, 0) := rfl
set_option maxRecDepth 100000 in
theorem i_166_985 : ins 166 985 = some (.iconst 0, 986, 0, 0, 0, 0) := rfl
set_option maxRecDepth 100000 in
theorem i_166_986 : ins 166 986 = some (.laload, 987, 0, 0, 0, 0) := rfl
set_option maxRecDepth 100000 in
theorem i_166_987 : ins 166 987 = some (.lload 7, 989, 7, 0, 0, 0) := rfl
set_option maxRecDepth 100000 in
theorem i_166_989 : ins 166 989 = some (.lcmp, 990, 0, 0, 0, 0) := rfl
set_option maxRecDepth 100000 in
theorem i_166_990 : ins 166 990 = some (.ifCond .eq 5, 993, 995, 0, 0, 0) := rfl
set_option maxRecDepth 100000 in
theorem i_166_993 : ins 166 993 = some (.iconst 0, 994, 0, 0, 0, 0) := rfl
set_option maxRecDepth 100000 in
theorem i_166_994 : ins 166 994 = some (.ireturn, 995, 0, 0, 0, 0) := rfl
set_option maxRecDepth 100000 in
theorem i_166_995 : ins 166 995 = some (.goto 80, 998, 1075, 0, 0, 0) := rfl
theorem S166_966 {Q : Ou → Prop} {M : Mem} {κ : Kp} (hκ : Rd κ)  {i : Nat} {kc : Int32} {bb : Int64} (b_i : i ≤ 100000) {r_969 : Int32}
    (o1 : Run 94 (0, entL 94 [.ref 134], [], M, κ) (.inl (some (.int r_969)), M, κ))
    (k1 : r_969 = kc → (((kc = 0) ∧ ((lg_cmp ((kX κ 178).toInt64) bb) = 0)) ∨ (¬ (kc = 0))) → RT 166 (1075, [.ref 999, .ref 0, .ref 134, .ref 178, .ref 179, .int (nI i), UU, UU, UU], [], M, κ) Q)
    (k2 : r_969 = kc → kc = 0 → ¬ ((lg_cmp ((kX κ 178).toInt64) bb) = 0) → Q (.inl (some (.int 0)), M, κ))
    (k3 : ¬ (r_969 = kc) → Q (.inl (some (.int 0)), M, κ))
    : RT 166 (966, [.ref 999, .ref 0, .ref 134, .ref 178, .ref 179, .int (nI i), .int kc, UU, UU], [.long bb], M, κ) Q := by
  refine w_store (l1 := [.ref 999, .ref 0, .ref 134, .ref 178, .ref 179, .int (nI i), .int kc, .long bb, UU]) i_166_966 rfl (Nat.le_of_ble_eq_true rfl) rfl ?_
  refine w_load i_166_968 rfl rfl ?_
  refine w_callV (i := _) i_166_969 ⟨by decide, by decide, by decide, rfl⟩ hκ (⟨rfl, by decide⟩ : isOb 134 7) (av := []) (rest := []) rfl rfl (Nat.le_of_ble_eq_true rfl) (v := some (.int r_969)) (o1) ?_
  refine w_load i_166_972 rfl rfl ?_
  refine w_if2 (r_969 = kc) i_166_974 cI_eq ?_ ?_
  · intro h1
    refine w_load i_166_979 rfl rfl ?_
    have K2 : (((kc = 0) ∧ ((lg_cmp ((kX κ 178).toInt64) bb) = 0)) ∨ (¬ (kc = 0))) → RT 166 (995, [.ref 999, .ref 0, .ref 134, .ref 178, .ref 179, .int (nI i), .int kc, .long bb, UU], [], M, κ) Q := by
      intro h3
      refine w_goto i_166_995 ?_
      exact w_weak (lle_s (lle_s (lle_s (lle_s (lle_s (lle_s (lle_u (lle_u (lle_s lle_n))))))))) (k1 h1 h3)
    refine w_if0n (kc = 0) i_166_981 cI0_ne ?_ ?_
    · intro h4
      refine w_load i_166_984 rfl rfl ?_
      refine w_push i_166_985 rfl ?_
      refine w_lald i_166_986 hκ (⟨rfl, by decide⟩ : kd 178 = 24 ∧ 178 < 180) (vp_in_nI (n := 0) (by decide) (by decide)) ?_
      refine w_load i_166_987 rfl rfl ?_
      refine w_lcmp i_166_989 ?_
      refine w_if0 ((lg_cmp ((kX κ 178).toInt64) bb) = 0) i_166_990 cI0_eq ?_ ?_
      · intro h5
        exact (by first | exact (K2 (.inl ⟨h4, h5⟩)) | (have K9 := K2 (.inl ⟨h4, h5⟩); simp only [↓if_pos h4, ↓if_pos h5] at K9 ⊢; exact (K9)))
      · intro h6
        refine w_push i_166_993 rfl ?_
        exact w_iret i_166_994 (.inr ⟨rfl, rfl⟩) (k2 h1 h4 h6)
    · intro h7
      exact (by first | exact (K2 (.inr h7)) | (have K9 := K2 (.inr h7); simp only [↓if_neg h7] at K9 ⊢; exact (K9)))
  · intro h8
    refine w_push i_166_977 rfl ?_
    exact w_iret i_166_978 (.inr ⟨rfl, rfl⟩) (k3 h8)
set_option maxRecDepth 100000 in
theorem i_166_1022 : ins 166 1022 = some (.dstore 7, 1024, 7, 0, 0, 0) := rfl
set_option maxRecDepth 100000 in
theorem i_166_1024 : ins 166 1024 = some (.aload_n 2, 1025, 2, 0, 0, 0) := rfl
set_option maxRecDepth 100000 in
theorem i_166_1025 : ins 166 1025 = some (.invokevirtual 74, 1028, 94, 0, 1, 0) := rfl
set_option maxRecDepth 100000 in
theorem i_166_1028 : ins 166 1028 = some (.iload 6, 1030, 6, 0, 0, 0) := rfl
set_option maxRecDepth 100000 in
theorem i_166_1030 : ins 166 1030 = some (.if_icmp .eq 5, 1033, 1035, 0, 0, 0) := rfl
set_option maxRecDepth 100000 in
theorem i_166_1033 : ins 166 1033 = some (.iconst 0, 1034, 0, 0, 0, 0) := rfl
set_option maxRecDepth 100000 in
theorem i_166_1034 : ins 166 1034 = some (.ireturn, 1035, 0, 0, 0, 0) := rfl
set_option maxRecDepth 100000 in
theorem i_166_1035 : ins 166 1035 = some (.iload 6, 1037, 6, 0, 0, 0) := rfl
set_option maxRecDepth 100000 in
theorem i_166_1037 : ins 166 1037 = some (.ifCond .ne 35, 1040, 1072, 0, 0, 0) := rfl
set_option maxRecDepth 100000 in
theorem i_166_1040 : ins 166 1040 = some (.aload 4, 1042, 4, 0, 0, 0) := rfl
set_option maxRecDepth 100000 in
theorem i_166_1042 : ins 166 1042 = some (.iconst 0, 1043, 0, 0, 0, 0) := rfl
set_option maxRecDepth 100000 in
theorem i_166_1043 : ins 166 1043 = some (.daload, 1044, 0, 0, 0, 0) := rfl
set_option maxRecDepth 100000 in
theorem i_166_1044 : ins 166 1044 = some (.dload 7, 1046, 7, 0, 0, 0) := rfl
set_option maxRecDepth 100000 in
theorem i_166_1046 : ins 166 1046 = some (.dcmp .l, 1047, 0, 0, 0, 0) := rfl
set_option maxRecDepth 100000 in
theorem i_166_1047 : ins 166 1047 = some (.ifCond .eq 25, 1050, 1072, 0, 0, 0) := rfl
set_option maxRecDepth 100000 in
theorem i_166_1050 : ins 166 1050 = some (.aload 4, 1052, 4, 0, 0, 0) := rfl
set_option maxRecDepth 100000 in
theorem i_166_1052 : ins 166 1052 = some (.iconst 0, 1053, 0, 0, 0, 0) := rfl
set_option maxRecDepth 100000 in
theorem i_166_1053 : ins 166 1053 = some (.daload, 1054, 0, 0, 0, 0) := rfl
set_option maxRecDepth 100000 in
theorem i_166_1054 : ins 166 1054 = some (.aload 4, 1056, 4, 0, 0, 0) := rfl
set_option maxRecDepth 100000 in
theorem i_166_1056 : ins 166 1056 = some (.iconst 0, 1057, 0, 0, 0, 0) := rfl
set_option maxRecDepth 100000 in
theorem i_166_1057 : ins 166 1057 = some (.daload, 1058, 0, 0, 0, 0) := rfl
set_option maxRecDepth 100000 in
theorem i_166_1058 : ins 166 1058 = some (.dcmp .l, 1059, 0, 0, 0, 0) := rfl
set_option maxRecDepth 100000 in
theorem i_166_1059 : ins 166 1059 = some (.ifCond .eq 11, 1062, 1070, 0, 0, 0) := rfl
set_option maxRecDepth 100000 in
theorem i_166_1062 : ins 166 1062 = some (.dload 7, 1064, 7, 0, 0, 0) := rfl
set_option maxRecDepth 100000 in
theorem i_166_1064 : ins 166 1064 = some (.dload 7, 1066, 7, 0, 0, 0) := rfl
set_option maxRecDepth 100000 in
theorem i_166_1066 : ins 166 1066 = some (.dcmp .l, 1067, 0, 0, 0, 0) := rfl
set_option maxRecDepth 100000 in
theorem i_166_1067 : ins 166 1067 = some (.ifCond .ne 5, 1070, 1072, 0, 0, 0) := rfl
set_option maxRecDepth 100000 in
theorem i_166_1070 : ins 166 1070 = some (.iconst 0, 1071, 0, 0, 0, 0) := rfl
set_option maxRecDepth 100000 in
theorem i_166_1071 : ins 166 1071 = some (.ireturn, 1072, 0, 0, 0, 0) := rfl
set_option maxRecDepth 100000 in
theorem i_166_1072 : ins 166 1072 = some (.goto 3, 1075, 1075, 0, 0, 0) := rfl
theorem S166_1022 {Q : Ou → Prop} {M : Mem} {κ : Kp} (hκ : Rd κ)  {i : Nat} {kc : Int32} {bb : UInt64} (b_i : i ≤ 100000) {r_1025 : Int32}
    (o1 : Run 94 (0, entL 94 [.ref 134], [], M, κ) (.inl (some (.int r_1025)), M, κ))
    (k1 : r_1025 = kc → (((kc = 0) ∧ ((Op.cmpValue (FP.dcmp (kX κ 179) bb) .l) = 0)) ∨ (¬ (kc = 0))) → RT 166 (1075, [.ref 999, .ref 0, .ref 134, .ref 178, .ref 179, .int (nI i), UU, UU, UU], [], M, κ) Q)
    (k2 : r_1025 = kc → kc = 0 → ¬ ((Op.cmpValue (FP.dcmp (kX κ 179) bb) .l) = 0) → (((Op.cmpValue (FP.dcmp (kX κ 179) (kX κ 179)) .l) = 0) ∨ ((¬ ((Op.cmpValue (FP.dcmp (kX κ 179) (kX κ 179)) .l) = 0)) ∧ ((Op.cmpValue (FP.dcmp bb bb) .l) = 0))) → Q (.inl (some (.int 0)), M, κ))
    (k3 : r_1025 = kc → kc = 0 → ¬ ((Op.cmpValue (FP.dcmp (kX κ 179) bb) .l) = 0) → ¬ ((Op.cmpValue (FP.dcmp (kX κ 179) (kX κ 179)) .l) = 0) → ¬ ((Op.cmpValue (FP.dcmp bb bb) .l) = 0) → RT 166 (1075, [.ref 999, .ref 0, .ref 134, .ref 178, .ref 179, .int (nI i), UU, UU, UU], [], M, κ) Q)
    (k4 : ¬ (r_1025 = kc) → Q (.inl (some (.int 0)), M, κ))
    : RT 166 (1022, [.ref 999, .ref 0, .ref 134, .ref 178, .ref 179, .int (nI i), .int kc, UU, UU], [.double bb], M, κ) Q := by
  refine w_store (l1 := [.ref 999, .ref 0, .ref 134, .ref 178, .ref 179, .int (nI i), .int kc, .double bb, UU]) i_166_1022 rfl (Nat.le_of_ble_eq_true rfl) rfl ?_
  refine w_load i_166_1024 rfl rfl ?_
  refine w_callV (i := _) i_166_1025 ⟨by decide, by decide, by decide, rfl⟩ hκ (⟨rfl, by decide⟩ : isOb 134 7) (av := []) (rest := []) rfl rfl (Nat.le_of_ble_eq_true rfl) (v := some (.int r_1025)) (o1) ?_
  refine w_load i_166_1028 rfl rfl ?_
  refine w_if2 (r_1025 = kc) i_166_1030 cI_eq ?_ ?_
  · intro h1
    refine w_load i_166_1035 rfl rfl ?_
    have K2 : (((kc = 0) ∧ ((Op.cmpValue (FP.dcmp (kX κ 179) bb) .l) = 0)) ∨ (¬ (kc = 0))) → RT 166 (1072, [.ref 999, .ref 0, .ref 134, .ref 178, .ref 179, .int (nI i), .int kc, .double bb, UU], [], M, κ) Q := by
      intro h3
      refine w_goto i_166_1072 ?_
      exact w_weak (lle_s (lle_s (lle_s (lle_s (lle_s (lle_s (lle_u (lle_u (lle_s lle_n))))))))) (k1 h1 h3)
    refine w_if0n (kc = 0) i_166_1037 cI0_ne ?_ ?_
    · intro h4
      refine w_load i_166_1040 rfl rfl ?_
      refine w_push i_166_1042 rfl ?_
      refine w_dald i_166_1043 hκ (⟨rfl, by decide⟩ : kd 179 = 25 ∧ 179 < 180) (vp_in_nI (n := 0) (by decide) (by decide)) ?_
      refine w_load i_166_1044 rfl rfl ?_
      refine w_dcmp i_166_1046 ?_
      refine w_if0 ((Op.cmpValue (FP.dcmp (kX κ 179) bb) .l) = 0) i_166_1047 cI0_eq ?_ ?_
      · intro h5
        exact (by first | exact (K2 (.inl ⟨h4, h5⟩)) | (have K9 := K2 (.inl ⟨h4, h5⟩); simp only [↓if_pos h4, ↓if_pos h5] at K9 ⊢; exact (K9)))
      · intro h6
        refine w_load i_166_1050 rfl rfl ?_
        refine w_push i_166_1052 rfl ?_
        refine w_dald i_166_1053 hκ (⟨rfl, by decide⟩ : kd 179 = 25 ∧ 179 < 180) (vp_in_nI (n := 0) (by decide) (by decide)) ?_
        refine w_load i_166_1054 rfl rfl ?_
        refine w_push i_166_1056 rfl ?_
        refine w_dald i_166_1057 hκ (⟨rfl, by decide⟩ : kd 179 = 25 ∧ 179 < 180) (vp_in_nI (n := 0) (by decide) (by decide)) ?_
        refine w_dcmp i_166_1058 ?_
        have K7 : (((Op.cmpValue (FP.dcmp (kX κ 179) (kX κ 179)) .l) = 0) ∨ ((¬ ((Op.cmpValue (FP.dcmp (kX κ 179) (kX κ 179)) .l) = 0)) ∧ ((Op.cmpValue (FP.dcmp bb bb) .l) = 0))) → RT 166 (1070, [.ref 999, .ref 0, .ref 134, .ref 178, .ref 179, .int (nI i), .int kc, .double bb, UU], [], M, κ) Q := by
          intro h8
          refine w_push i_166_1070 rfl ?_
          exact w_iret i_166_1071 (.inr ⟨rfl, rfl⟩) (k2 h1 h4 h6 h8)
        refine w_if0 ((Op.cmpValue (FP.dcmp (kX κ 179) (kX κ 179)) .l) = 0) i_166_1059 cI0_eq ?_ ?_
        · intro h9
          exact (by first | exact (K7 (.inl h9)) | (have K9 := K7 (.inl h9); simp only [↓if_pos h9] at K9 ⊢; exact (K9)))
        · intro h10
          refine w_load i_166_1062 rfl rfl ?_
          refine w_load i_166_1064 rfl rfl ?_
          refine w_dcmp i_166_1066 ?_
          refine w_if0n ((Op.cmpValue (FP.dcmp bb bb) .l) = 0) i_166_1067 cI0_ne ?_ ?_
          · intro h11
            exact (by first | exact (K7 (.inr ⟨h10, h11⟩)) | (have K9 := K7 (.inr ⟨h10, h11⟩); simp only [↓if_neg h10, ↓if_pos h11] at K9 ⊢; exact (K9)))
          · intro h12
            refine w_goto i_166_1072 ?_
            exact w_weak (lle_s (lle_s (lle_s (lle_s (lle_s (lle_s (lle_u (lle_u (lle_s lle_n))))))))) (k3 h1 h4 h6 h10 h12)
    · intro h13
      exact (by first | exact (K2 (.inr h13)) | (have K9 := K2 (.inr h13); simp only [↓if_neg h13] at K9 ⊢; exact (K9)))
  · intro h14
    refine w_push i_166_1033 rfl ?_
    exact w_iret i_166_1034 (.inr ⟨rfl, rfl⟩) (k4 h14)
end P_59_law
