/-! RUN: a run of the class -/
section P_50_runc
theorem i_91_0 : ins 91 0 = some (.aload_n 0, 1, 0, 0, 0, 0) := rfl
theorem i_91_1 : ins 91 1 = some (.getfield 62, 4, 6, 9, 0, 0) := rfl
theorem i_91_4 : ins 91 4 = some (.aload_n 0, 5, 0, 0, 0, 0) := rfl
theorem i_91_5 : ins 91 5 = some (.getfield 58, 8, 6, 8, 0, 0) := rfl
theorem i_91_8 : ins 91 8 = some (.getfield 108, 11, 4, 5, 0, 0) := rfl
theorem i_91_11 : ins 91 11 = some (.invokevirtual 250, 14, 50, 0, 2, 0) := rfl
theorem S91_0 {Q : Ou → Prop} {M : Mem} {κ : Kp} (hκ : Rd κ) {oo o2 : Nat} (ho : isOc oo) (ho2 : isOc o2) (ht9 : M 0 9 = nI oo) (ht8 : M 0 8 = nI o2) 
    (k1 : RT 50 (0, entL 50 [.ref oo, .ref (o2 + 3)], [], M, κ) (fun o => ∃ v M1 κ1, o = (.inl v, M1, κ1) ∧ RT 91 (14, [.ref 0, UU, UU, UU, UU, UU], v.toList ++ [], M1, κ1) Q))
    : RT 91 (0, [.ref 0, UU, UU, UU, UU, UU], [], M, κ) Q := by
  refine w_load i_91_0 rfl rfl ?_
  refine w_getD oo i_91_1 hκ (⟨rfl, by decide⟩ : isOb 0 6) rfl (ht9) (oc_pos ho) ?_
  refine w_load i_91_4 rfl rfl ?_
  refine w_getD o2 i_91_5 hκ (⟨rfl, by decide⟩ : isOb 0 6) rfl (ht8) (oc_pos ho2) ?_
  refine w_getR (o2 + 3) i_91_8 hκ (oc_ob ho2) rfl rfl ?_
  exact w_callVI (i := _) i_91_11 ⟨by decide, by decide, by decide, rfl⟩ hκ (oc_ob ho) (av := [.ref (o2 + 3)]) (rest := []) rfl rfl (Nat.le_of_ble_eq_true rfl) (k1)
theorem i_91_14 : ins 91 14 = some (.iconst 0, 15, 0, 0, 0, 0) := rfl
theorem i_91_15 : ins 91 15 = some (.istore_n 1, 16, 1, 0, 0, 0) := rfl
theorem i_91_16 : ins 91 16 = some (.iconst 0, 17, 0, 0, 0, 0) := rfl
theorem i_91_17 : ins 91 17 = some (.istore_n 2, 18, 2, 0, 0, 0) := rfl
theorem i_91_18 : ins 91 18 = some (.iconst 0, 19, 0, 0, 0, 0) := rfl
theorem i_91_19 : ins 91 19 = some (.istore_n 3, 20, 3, 0, 0, 0) := rfl
theorem S91_14 {Q : Ou → Prop} {M : Mem} {κ : Kp} (hκ : Rd κ)  
    (k1 : RT 91 (20, [.ref 0, .int 0, .int (nI 0), .int (nI 0), UU, UU], [], M, κ) Q)
    : RT 91 (14, [.ref 0, UU, UU, UU, UU, UU], [], M, κ) Q := by
  refine w_push i_91_14 rfl ?_
  refine w_store (l1 := [.ref 0, .int 0, UU, UU, UU, UU]) i_91_15 rfl (Nat.le_of_ble_eq_true rfl) rfl ?_
  refine w_push i_91_16 rfl ?_
  refine w_store (l1 := [.ref 0, .int 0, .int 0, UU, UU, UU]) i_91_17 rfl (Nat.le_of_ble_eq_true rfl) rfl ?_
  refine w_push i_91_18 rfl ?_
  refine w_store (l1 := [.ref 0, .int 0, .int 0, .int 0, UU, UU]) i_91_19 rfl (Nat.le_of_ble_eq_true rfl) rfl ?_
  exact (k1)
theorem i_91_20 : ins 91 20 = some (.iload_n 3, 21, 3, 0, 0, 0) := rfl
theorem i_91_21 : ins 91 21 = some (.bipush 100, 23, 0, 0, 0, 100) := rfl
theorem i_91_23 : ins 91 23 = some (.if_icmp .ge 139, 26, 162, 0, 0, 0) := rfl
theorem i_91_26 : ins 91 26 = some (.aload_n 0, 27, 0, 0, 0, 0) := rfl
theorem i_91_27 : ins 91 27 = some (.getfield 22, 30, 6, 2, 0, 0) := rfl
theorem i_91_30 : ins 91 30 = some (.iload_n 2, 31, 2, 0, 0, 0) := rfl
theorem i_91_31 : ins 91 31 = some (.aaload, 32, 0, 0, 0, 0) := rfl
theorem i_91_32 : ins 91 32 = some (.astore 4, 34, 4, 0, 0, 0) := rfl
theorem i_91_34 : ins 91 34 = some (.aload 4, 36, 4, 0, 0, 0) := rfl
theorem i_91_36 : ins 91 36 = some (.getfield 175, 39, 0, 0, 0, 0) := rfl
theorem i_91_39 : ins 91 39 = some (.iconst 3, 40, 0, 0, 0, 3) := rfl
theorem i_91_40 : ins 91 40 = some (.if_icmp .ne 23, 43, 63, 0, 0, 0) := rfl
theorem i_91_43 : ins 91 43 = some (.aload_n 0, 44, 0, 0, 0, 0) := rfl
theorem i_91_44 : ins 91 44 = some (.getfield 62, 47, 6, 9, 0, 0) := rfl
theorem i_91_47 : ins 91 47 = some (.getfield 156, 50, 4, 4, 0, 0) := rfl
theorem i_91_50 : ins 91 50 = some (.aload 4, 52, 4, 0, 0, 0) := rfl
theorem i_91_52 : ins 91 52 = some (.getfield 212, 55, 0, 1, 0, 0) := rfl
theorem i_91_55 : ins 91 55 = some (.iaload, 56, 0, 0, 0, 0) := rfl
theorem i_91_56 : ins 91 56 = some (.iconst 0, 57, 0, 0, 0, 0) := rfl
theorem i_91_57 : ins 91 57 = some (.invokestatic 253, 60, 164, 1, 2, 0) := rfl
theorem i_91_60 : ins 91 60 = some (.goto 4, 63, 64, 0, 0, 0) := rfl
theorem i_91_63 : ins 91 63 = some (.iconst 1, 64, 0, 0, 0, 1) := rfl
theorem i_91_64 : ins 91 64 = some (.istore 5, 66, 5, 0, 0, 0) := rfl
theorem i_91_162 : ins 91 162 = some (.iconst (-1), 163, 0, 0, 0, (-1)) := rfl
theorem i_91_163 : ins 91 163 = some (.ireturn, 164, 0, 0, 0, 0) := rfl
theorem S91_20 {Q : Ou → Prop} {M : Mem} {κ : Kp} (hκ : Rd κ) {oo x come : Nat} {e v : Int32} (hx : x < 6) (ho : isOc oo) (ht9 : M 0 9 = nI oo) (hh0 : M (12 + 18 * x) 0 = e) (hh1 : M (12 + 18 * x) 1 = v) (hcm : come ≤ 100) {cy : Int32}
    (o1 : come < 100 → e = 3 → vp_in v 12)
    (k1 : come < 100 → RT 91 (66, [.ref 0, .int cy, .int (nI x), .int (nI come), .ref (12 + 18 * x), .int (if e = 3 then (mx (M (oo + 2) v.toNatClampNeg) 0) else 1)], [], M, κ) Q)
    (k2 : ¬ (come < 100) → Q (.inl (some (.int (-1))), M, κ))
    : RT 91 (20, [.ref 0, .int cy, .int (nI x), .int (nI come), UU, UU], [], M, κ) Q := by
  refine w_load i_91_20 rfl rfl ?_
  refine w_push i_91_21 rfl ?_
  refine w_if2n (come < 100) i_91_23 (cN_ge (a := come) (b := 100) (by omega) (by omega)) ?_ ?_
  · intro h1
    refine w_load i_91_26 rfl rfl ?_
    refine w_getR 3 i_91_27 hκ (⟨rfl, by decide⟩ : isOb 0 6) rfl rfl ?_
    refine w_load i_91_30 rfl rfl ?_
    refine w_aaldN (e := x) (12 + 18 * x) i_91_31 hκ (⟨by decide, by decide⟩ : (kd 3 = 22 ∨ kd 3 = 23) ∧ 3 < 180) (by omega) rfl ?_
    refine w_store (l1 := [.ref 0, .int cy, .int (nI x), .int (nI come), .ref (12 + 18 * x), UU]) i_91_32 rfl (Nat.le_of_ble_eq_true rfl) rfl ?_
    refine w_load i_91_34 rfl rfl ?_
    refine w_getI (v := e) i_91_36 hκ (bl_ob (bl_b (by omega : x < 6))) rfl (hh0) ?_
    refine w_push i_91_39 rfl ?_
    have K2 : RT 91 (64, [.ref 0, .int cy, .int (nI x), .int (nI come), .ref (12 + 18 * x), UU], [.int (if e = 3 then (mx (M (oo + 2) v.toNatClampNeg) 0) else 1)], M, κ) Q := by
      refine w_store (l1 := [.ref 0, .int cy, .int (nI x), .int (nI come), .ref (12 + 18 * x), .int (if e = 3 then (mx (M (oo + 2) v.toNatClampNeg) 0) else 1)]) i_91_64 rfl (Nat.le_of_ble_eq_true rfl) rfl ?_
      exact (k1 h1)
    refine w_if2n (e = 3) i_91_40 cI_ne ?_ ?_
    · intro h3
      refine w_load i_91_43 rfl rfl ?_
      refine w_getD oo i_91_44 hκ (⟨rfl, by decide⟩ : isOb 0 6) rfl (ht9) (oc_pos ho) ?_
      refine w_getR (oo + 2) i_91_47 hκ (oc_ob ho) rfl rfl ?_
      refine w_load i_91_50 rfl rfl ?_
      refine w_getI (v := v) i_91_52 hκ (bl_ob (bl_b (by omega : x < 6))) rfl (hh1) ?_
      refine w_iald (v := (M (oo + 2) v.toNatClampNeg)) i_91_55 hκ (oc_ar2 ho) (o1 h1 h3) (rfl) ?_
      refine w_push i_91_56 rfl ?_
      refine w_mmax i_91_57 rfl (by decide) (Nat.le_of_ble_eq_true rfl) ?_
      refine w_goto i_91_60 ?_
      exact (by first | exact (K2) | (have K9 := K2; simp only [↓if_pos h3] at K9 ⊢; exact (K9)))
    · intro h4
      refine w_push i_91_63 rfl ?_
      exact (by first | exact (K2) | (have K9 := K2; simp only [↓if_neg h4] at K9 ⊢; exact (K9)))
  · intro h5
    refine w_push i_91_162 rfl ?_
    exact w_iret i_91_163 (.inl rfl) (k2 h5)
theorem i_91_66 : ins 91 66 = some (.aload_n 0, 67, 0, 0, 0, 0) := rfl
theorem i_91_67 : ins 91 67 = some (.getfield 62, 70, 6, 9, 0, 0) := rfl
theorem i_91_70 : ins 91 70 = some (.iload 5, 72, 5, 0, 0, 0) := rfl
theorem i_91_72 : ins 91 72 = some (.invokevirtual 259, 75, 51, 0, 2, 0) := rfl
theorem i_91_75 : ins 91 75 = some (.ifCond .ne 5, 78, 80, 0, 0, 0) := rfl
theorem i_91_78 : ins 91 78 = some (.iconst (-1), 79, 0, 0, 0, (-1)) := rfl
theorem i_91_79 : ins 91 79 = some (.ireturn, 80, 0, 0, 0, 0) := rfl
theorem i_91_80 : ins 91 80 = some (.iload_n 1, 81, 1, 0, 0, 0) := rfl
theorem i_91_81 : ins 91 81 = some (.aload_n 0, 82, 0, 0, 0, 0) := rfl
theorem i_91_82 : ins 91 82 = some (.aload 4, 84, 4, 0, 0, 0) := rfl
theorem i_91_84 : ins 91 84 = some (.aload_n 0, 85, 0, 0, 0, 0) := rfl
theorem i_91_85 : ins 91 85 = some (.getfield 27, 88, 6, 3, 0, 0) := rfl
theorem i_91_88 : ins 91 88 = some (.iload_n 2, 89, 2, 0, 0, 0) := rfl
theorem i_91_89 : ins 91 89 = some (.aaload, 90, 0, 0, 0, 0) := rfl
theorem i_91_90 : ins 91 90 = some (.iload 5, 92, 5, 0, 0, 0) := rfl
theorem i_91_92 : ins 91 92 = some (.invokevirtual 262, 95, 92, 0, 4, 0) := rfl
theorem S91_66 {Q : Ou → Prop} {M : Mem} {κ : Kp} (hκ : Rd κ) {oo x come : Nat} (hx : x < 6) (ho : isOc oo) (ht9 : M 0 9 = nI oo) {cy : Int32} {ti : Int32}
    (k1 : RT 51 (0, entL 51 [.ref oo, .int ti], [], M, κ) (fun o => ∃ v M1 κ1, o = (.inl v, M1, κ1) ∧ RT 91 (75, [.ref 0, .int cy, .int (nI x), .int (nI come), .ref (12 + 18 * x), .int ti], v.toList ++ [], M1, κ1) Q))
    : RT 91 (66, [.ref 0, .int cy, .int (nI x), .int (nI come), .ref (12 + 18 * x), .int ti], [], M, κ) Q := by
  refine w_load i_91_66 rfl rfl ?_
  refine w_getD oo i_91_67 hκ (⟨rfl, by decide⟩ : isOb 0 6) rfl (ht9) (oc_pos ho) ?_
  refine w_load i_91_70 rfl rfl ?_
  exact w_callVI (i := _) i_91_72 ⟨by decide, by decide, by decide, rfl⟩ hκ (oc_ob ho) (av := [.int ti]) (rest := []) rfl rfl (Nat.le_of_ble_eq_true rfl) (k1)
theorem S91_75 {Q : Ou → Prop} {M : Mem} {κ : Kp} (hκ : Rd κ) {oo x come : Nat} (hx : x < 6) (ho : isOc oo) (ht9 : M 0 9 = nI oo) {cy : Int32} {ti : Int32} {ok : Bool}
    (k1 : ok = true → RT 92 (0, entL 92 [.ref 0, .ref (12 + 18 * x), .ref (19 + 18 * x), .int ti], [], M, κ) (fun o => ∃ v M1 κ1, o = (.inl v, M1, κ1) ∧ RT 91 (95, [.ref 0, .int cy, .int (nI x), .int (nI come), .ref (12 + 18 * x), .int ti], v.toList ++ [.int cy], M1, κ1) Q))
    (k2 : ¬ (ok = true) → Q (.inl (some (.int (-1))), M, κ))
    : RT 91 (75, [.ref 0, .int cy, .int (nI x), .int (nI come), .ref (12 + 18 * x), .int ti], [.int (bI ok)], M, κ) Q := by
  refine w_if0 (ok = true) i_91_75 cB_ne ?_ ?_
  · intro h1
    refine w_load i_91_80 rfl rfl ?_
    refine w_load i_91_81 rfl rfl ?_
    refine w_load i_91_82 rfl rfl ?_
    refine w_load i_91_84 rfl rfl ?_
    refine w_getR 4 i_91_85 hκ (⟨rfl, by decide⟩ : isOb 0 6) rfl rfl ?_
    refine w_load i_91_88 rfl rfl ?_
    refine w_aaldN (e := x) (19 + 18 * x) i_91_89 hκ (⟨by decide, by decide⟩ : (kd 4 = 22 ∨ kd 4 = 23) ∧ 4 < 180) (by omega) rfl ?_
    refine w_load i_91_90 rfl rfl ?_
    exact w_callVI (i := _) i_91_92 ⟨by decide, by decide, by decide, rfl⟩ hκ (⟨rfl, by decide⟩ : isOb 0 6) (av := [.ref (12 + 18 * x), .ref (19 + 18 * x), .int ti]) (rest := [.int cy]) rfl rfl (Nat.le_of_ble_eq_true rfl) (k1 h1)
  · intro h2
    refine w_push i_91_78 rfl ?_
    exact w_iret i_91_79 (.inl rfl) (k2 h2)
theorem i_91_95 : ins 91 95 = some (.iadd, 96, 0, 0, 0, 0) := rfl
theorem i_91_96 : ins 91 96 = some (.istore_n 1, 97, 1, 0, 0, 0) := rfl
theorem i_91_97 : ins 91 97 = some (.aload_n 0, 98, 0, 0, 0, 0) := rfl
theorem i_91_98 : ins 91 98 = some (.getfield 62, 101, 6, 9, 0, 0) := rfl
theorem i_91_101 : ins 91 101 = some (.getfield 147, 104, 4, 2, 0, 0) := rfl
theorem i_91_104 : ins 91 104 = some (.ifCond .ne 11, 107, 115, 0, 0, 0) := rfl
theorem i_91_107 : ins 91 107 = some (.aload 4, 109, 4, 0, 0, 0) := rfl
theorem i_91_109 : ins 91 109 = some (.getfield 175, 112, 0, 0, 0, 0) := rfl
theorem i_91_112 : ins 91 112 = some (.ifCond .ne 5, 115, 117, 0, 0, 0) := rfl
theorem i_91_115 : ins 91 115 = some (.iload_n 1, 116, 1, 0, 0, 0) := rfl
theorem i_91_116 : ins 91 116 = some (.ireturn, 117, 0, 0, 0, 0) := rfl
theorem i_91_117 : ins 91 117 = some (.aload 4, 119, 4, 0, 0, 0) := rfl
theorem i_91_119 : ins 91 119 = some (.getfield 175, 122, 0, 0, 0, 0) := rfl
theorem i_91_122 : ins 91 122 = some (.iconst 2, 123, 0, 0, 0, 2) := rfl
theorem i_91_123 : ins 91 123 = some (.if_icmp .ne 27, 126, 150, 0, 0, 0) := rfl
theorem i_91_126 : ins 91 126 = some (.aload_n 0, 127, 0, 0, 0, 0) := rfl
theorem i_91_127 : ins 91 127 = some (.getfield 62, 130, 6, 9, 0, 0) := rfl
theorem i_91_130 : ins 91 130 = some (.getfield 156, 133, 4, 4, 0, 0) := rfl
theorem i_91_133 : ins 91 133 = some (.aload 4, 135, 4, 0, 0, 0) := rfl
theorem i_91_135 : ins 91 135 = some (.getfield 212, 138, 0, 1, 0, 0) := rfl
theorem i_91_138 : ins 91 138 = some (.iaload, 139, 0, 0, 0, 0) := rfl
theorem i_91_139 : ins 91 139 = some (.ifCond .ne 11, 142, 150, 0, 0, 0) := rfl
theorem i_91_142 : ins 91 142 = some (.aload 4, 144, 4, 0, 0, 0) := rfl
theorem i_91_144 : ins 91 144 = some (.getfield 218, 147, 0, 3, 0, 0) := rfl
theorem i_91_147 : ins 91 147 = some (.goto 8, 150, 155, 0, 0, 0) := rfl
theorem i_91_150 : ins 91 150 = some (.aload 4, 152, 4, 0, 0, 0) := rfl
theorem i_91_152 : ins 91 152 = some (.getfield 178, 155, 0, 2, 0, 0) := rfl
theorem i_91_155 : ins 91 155 = some (.istore_n 2, 156, 2, 0, 0, 0) := rfl
theorem i_91_156 : ins 91 156 = some (.iinc 3 1, 159, 3, 0, 0, 1) := rfl
theorem i_91_159 : ins 91 159 = some (.goto (-139), 162, 20, 0, 0, 0) := rfl
theorem S91_95 {Q : Ou → Prop} {M : Mem} {κ : Kp} (hκ : Rd κ) {oo x come t f : Nat} {e v : Int32} (hx : x < 6) (ho : isOc oo) (ht9 : M 0 9 = nI oo) (hh0 : M (12 + 18 * x) 0 = e) (hh1 : M (12 + 18 * x) 1 = v) (hh2 : M (12 + 18 * x) 2 = nI t) (hh3 : M (12 + 18 * x) 3 = nI f) (hcm : come ≤ 100) {co : Int32} {cy : Int32}
    (o1 : (M oo 2) = 0 → ¬ (e = 0) → e = 2 → vp_in v 12)
    (k1 : ((((M oo 2) = 0) ∧ (e = 0)) ∨ (¬ ((M oo 2) = 0))) → Q (.inl (some (.int (cy + co))), M, κ))
    (k2 : (M oo 2) = 0 → ¬ (e = 0) → RT 91 (20, [.ref 0, .int (cy + co), .int (nI (if e = 2 then (if (M (oo + 2) v.toNatClampNeg) = 0 then f else t) else t)), .int (nI (come + 1)), UU, UU], [], M, κ) Q)
    : RT 91 (95, [.ref 0, UU, .int (nI x), .int (nI come), .ref (12 + 18 * x), UU], [.int co, .int cy], M, κ) Q := by
  refine w_bin (w := (cy + co)) i_91_95 rfl rfl ?_
  refine w_store (l1 := [.ref 0, .int (cy + co), .int (nI x), .int (nI come), .ref (12 + 18 * x), UU]) i_91_96 rfl (Nat.le_of_ble_eq_true rfl) rfl ?_
  refine w_load i_91_97 rfl rfl ?_
  refine w_getD oo i_91_98 hκ (⟨rfl, by decide⟩ : isOb 0 6) rfl (ht9) (oc_pos ho) ?_
  refine w_getI (v := (M oo 2)) i_91_101 hκ (oc_ob ho) rfl (rfl) ?_
  have K1 : ((((M oo 2) = 0) ∧ (e = 0)) ∨ (¬ ((M oo 2) = 0))) → RT 91 (115, [.ref 0, .int (cy + co), .int (nI x), .int (nI come), .ref (12 + 18 * x), UU], [], M, κ) Q := by
    intro h2
    refine w_load i_91_115 rfl rfl ?_
    exact w_iret i_91_116 (.inl rfl) (k1 h2)
  refine w_if0n ((M oo 2) = 0) i_91_104 cI0_ne ?_ ?_
  · intro h3
    refine w_load i_91_107 rfl rfl ?_
    refine w_getI (v := e) i_91_109 hκ (bl_ob (bl_b (by omega : x < 6))) rfl (hh0) ?_
    refine w_if0n (e = 0) i_91_112 cI0_ne ?_ ?_
    · intro h4
      exact (by first | exact (K1 (.inl ⟨h3, h4⟩)) | (have K9 := K1 (.inl ⟨h3, h4⟩); simp only [↓if_pos h3, ↓if_pos h4] at K9 ⊢; exact (K9)))
    · intro h5
      refine w_load i_91_117 rfl rfl ?_
      refine w_getI (v := e) i_91_119 hκ (bl_ob (bl_b (by omega : x < 6))) rfl (hh0) ?_
      refine w_push i_91_122 rfl ?_
      have K6 : RT 91 (155, [.ref 0, .int (cy + co), .int (nI x), .int (nI come), .ref (12 + 18 * x), UU], [.int (nI (if e = 2 then (if (M (oo + 2) v.toNatClampNeg) = 0 then f else t) else t))], M, κ) Q := by
        refine w_store (l1 := [.ref 0, .int (cy + co), .int (nI (if e = 2 then (if (M (oo + 2) v.toNatClampNeg) = 0 then f else t) else t)), .int (nI come), .ref (12 + 18 * x), UU]) i_91_155 rfl (Nat.le_of_ble_eq_true rfl) rfl ?_
        refine w_iincN (n := come) (l1 := [.ref 0, .int (cy + co), .int (nI (if e = 2 then (if (M (oo + 2) v.toNatClampNeg) = 0 then f else t) else t)), .int (nI (come + 1)), .ref (12 + 18 * x), UU]) 1 i_91_156 rfl rfl ?_
        refine w_goto i_91_159 ?_
        exact w_weak (lle_s (lle_s (lle_s (lle_s (lle_u (lle_s lle_n)))))) (k2 h3 h5)
      refine w_if2n (e = 2) i_91_123 cI_ne ?_ ?_
      · intro h7
        refine w_load i_91_126 rfl rfl ?_
        refine w_getD oo i_91_127 hκ (⟨rfl, by decide⟩ : isOb 0 6) rfl (ht9) (oc_pos ho) ?_
        refine w_getR (oo + 2) i_91_130 hκ (oc_ob ho) rfl rfl ?_
        refine w_load i_91_133 rfl rfl ?_
        refine w_getI (v := v) i_91_135 hκ (bl_ob (bl_b (by omega : x < 6))) rfl (hh1) ?_
        refine w_iald (v := (M (oo + 2) v.toNatClampNeg)) i_91_138 hκ (oc_ar2 ho) (o1 h3 h5 h7) (rfl) ?_
        refine w_if0n ((M (oo + 2) v.toNatClampNeg) = 0) i_91_139 cI0_ne ?_ ?_
        · intro h8
          refine w_load i_91_142 rfl rfl ?_
          refine w_getI (v := (nI f)) i_91_144 hκ (bl_ob (bl_b (by omega : x < 6))) rfl (hh3) ?_
          refine w_goto i_91_147 ?_
          exact (by first | exact (K6) | (have K9 := K6; simp only [↓if_pos h7, ↓if_pos h8] at K9 ⊢; exact (K9)))
        · intro h9
          refine w_load i_91_150 rfl rfl ?_
          refine w_getI (v := (nI t)) i_91_152 hκ (bl_ob (bl_b (by omega : x < 6))) rfl (hh2) ?_
          exact (by first | exact (K6) | (have K9 := K6; simp only [↓if_pos h7, ↓if_neg h9] at K9 ⊢; exact (K9)))
      · intro h10
        refine w_load i_91_150 rfl rfl ?_
        refine w_getI (v := (nI t)) i_91_152 hκ (bl_ob (bl_b (by omega : x < 6))) rfl (hh2) ?_
        exact (by first | exact (K6) | (have K9 := K6; simp only [↓if_neg h10] at K9 ⊢; exact (K9)))
  · intro h11
    exact (by first | exact (K1 (.inr h11)) | (have K9 := K1 (.inr h11); simp only [↓if_neg h11] at K9 ⊢; exact (K9)))
theorem i_72_0 : ins 72 0 = some (.aload_n 0, 1, 0, 0, 0, 0) := rfl
theorem i_72_1 : ins 72 1 = some (.getfield 51, 4, 6, 7, 0, 0) := rfl
theorem i_72_4 : ins 72 4 = some (.ifCond .ne 11, 7, 15, 0, 0, 0) := rfl
theorem i_72_7 : ins 72 7 = some (.new 94, 10, 1, 1, 0, 0) := rfl
theorem i_72_15 : ins 72 15 = some (.aload_n 0, 16, 0, 0, 0, 0) := rfl
theorem i_72_16 : ins 72 16 = some (.invokevirtual 138, 19, 91, 0, 1, 0) := rfl
theorem S72_0 {Q : Ou → Prop} {M : Mem} {κ : Kp} (hκ : Rd κ) {cf : Bool} (hcp : M 0 7 = bI cf) 
    (k1 : cf = true → RT 91 (0, entL 91 [.ref 0], [], M, κ) (fun o => ∃ v M1 κ1, o = (.inl v, M1, κ1) ∧ RT 72 (19, [.ref 0, UU, UU], v.toList ++ [], M1, κ1) Q))
    (k2 : ¬ (cf = true) → Q (.inr 1, M, (κ.1, κ.2.1, κ.2.2.1, kN κ, kC κ + 1, kU κ + 6)))
    : RT 72 (0, [.ref 0, UU, UU], [], M, κ) Q := by
  refine w_load i_72_0 rfl rfl ?_
  refine w_getI (v := (bI cf)) i_72_1 hκ (⟨rfl, by decide⟩ : isOb 0 6) rfl (hcp) ?_
  refine w_if0 (cf = true) i_72_4 cB_ne ?_ ?_
  · intro h1
    refine w_load i_72_15 rfl rfl ?_
    exact w_callVI (i := _) i_72_16 ⟨by decide, by decide, by decide, rfl⟩ hκ (⟨rfl, by decide⟩ : isOb 0 6) (av := []) (rest := []) rfl rfl (Nat.le_of_ble_eq_true rfl) (k1 h1)
  · intro h2
    exact w_throw i_72_7 rfl hκ (by decide) rfl (Nat.le_of_ble_eq_true rfl) (k2 h2)
theorem i_72_19 : ins 72 19 = some (.istore_n 1, 20, 1, 0, 0, 0) := rfl
theorem i_72_20 : ins 72 20 = some (.iload_n 1, 21, 1, 0, 0, 0) := rfl
theorem i_72_21 : ins 72 21 = some (.iconst (-1), 22, 0, 0, 0, (-1)) := rfl
theorem i_72_22 : ins 72 22 = some (.if_icmp .ne 11, 25, 33, 0, 0, 0) := rfl
theorem i_72_25 : ins 72 25 = some (.new 141, 28, 3, 1, 0, 0) := rfl
theorem i_72_33 : ins 72 33 = some (.aload_n 0, 34, 0, 0, 0, 0) := rfl
theorem i_72_34 : ins 72 34 = some (.getfield 62, 37, 6, 9, 0, 0) := rfl
theorem i_72_37 : ins 72 37 = some (.astore_n 2, 38, 2, 0, 0, 0) := rfl
theorem i_72_38 : ins 72 38 = some (.aload_n 0, 39, 0, 0, 0, 0) := rfl
theorem i_72_39 : ins 72 39 = some (.aload_n 0, 40, 0, 0, 0, 0) := rfl
theorem i_72_40 : ins 72 40 = some (.getfield 58, 43, 6, 8, 0, 0) := rfl
theorem i_72_43 : ins 72 43 = some (.putfield 62, 46, 6, 9, 0, 0) := rfl
theorem i_72_46 : ins 72 46 = some (.aload_n 0, 47, 0, 0, 0, 0) := rfl
theorem i_72_47 : ins 72 47 = some (.aload_n 2, 48, 2, 0, 0, 0) := rfl
theorem i_72_48 : ins 72 48 = some (.putfield 58, 51, 6, 8, 0, 0) := rfl
theorem i_72_51 : ins 72 51 = some (.iload_n 1, 52, 1, 0, 0, 0) := rfl
theorem i_72_52 : ins 72 52 = some (.ireturn, 53, 0, 0, 0, 0) := rfl
theorem S72_19 {Q : Ou → Prop} {M : Mem} {κ : Kp} (hκ : Rd κ) {oo o2 : Nat} (ho : isOc oo) (ho2 : isOc o2) (ht9 : M 0 9 = nI oo) (ht8 : M 0 8 = nI o2) {cy : Int32}
    (k1 : cy = (-1) → Q (.inr 3, M, (κ.1, κ.2.1, κ.2.2.1, kN κ, kC κ + 1, kU κ + 6)))
    (k2 : ¬ (cy = (-1)) → Q (.inl (some (.int cy)), (stM (stM M 0 9 (nI o2)) 0 8 (nI oo)), κ))
    : RT 72 (19, [.ref 0, UU, UU], [.int cy], M, κ) Q := by
  refine w_store (l1 := [.ref 0, .int cy, UU]) i_72_19 rfl (Nat.le_of_ble_eq_true rfl) rfl ?_
  refine w_load i_72_20 rfl rfl ?_
  refine w_push i_72_21 rfl ?_
  refine w_if2n (cy = (-1)) i_72_22 cI_ne ?_ ?_
  · intro h1
    exact w_throw i_72_25 rfl hκ (by decide) rfl (Nat.le_of_ble_eq_true rfl) (k1 h1)
  · intro h2
    refine w_load i_72_33 rfl rfl ?_
    refine w_getD oo i_72_34 hκ (⟨rfl, by decide⟩ : isOb 0 6) rfl (ht9) (oc_pos ho) ?_
    refine w_store (l1 := [.ref 0, .int cy, .ref oo]) i_72_37 rfl (Nat.le_of_ble_eq_true rfl) rfl ?_
    refine w_load i_72_38 rfl rfl ?_
    refine w_load i_72_39 rfl rfl ?_
    refine w_getD o2 i_72_40 hκ (⟨rfl, by decide⟩ : isOb 0 6) rfl (ht8) (oc_pos ho2) ?_
    refine w_putD i_72_43 hκ (⟨rfl, by decide⟩ : isOb 0 6) rfl (oc_pos ho2) ?_
    refine w_load i_72_46 rfl rfl ?_
    refine w_load i_72_47 rfl rfl ?_
    refine w_putD i_72_48 hκ (⟨rfl, by decide⟩ : isOb 0 6) rfl (oc_pos ho) ?_
    refine w_load i_72_51 rfl rfl ?_
    exact w_iret i_72_52 (.inl rfl) (k2 h2)
variable {Q : Ou → Prop} {M M0 : Mem} {κ : Kp}
section RN
variable (v : Nat → Int32) (f : Nat → Nat) (nb : Nat) (s : Ss) (qq : Nat → Pq)
def tiS (x : Nat) (va : Nat → Int32) : Int32 := if s.1 x = 3 then va (v x).toNatClampNeg else 1
def nxS (x : Nat) (va : Nat → Int32) : Nat := if s.1 x = 2 then (if va (v x).toNatClampNeg = 0 then f x else s.2.1 x) else s.2.1 x
/-- a run from a block on: cycles, turns, trapped, and what is kept -/
def rnS : Nat → Nat → Nat → Nat → Rs → Option (Nat × Nat × Bool × Rs)
  | 0, _, _, _, _ => none
  | d + 1, x, tu, cy, r => if 100 < (tu : Int) + max (tiS v s x r.1).toInt 1 then none else
    match ptS (s.2.2.2.2 x) (s.2.2.1 x) (tiS v s x r.1).toInt.toNat 0 r with
    | (some (pa, k), r') => some (cy + cuN (qq x) pa k, tu + max (tiS v s x r.1).toInt.toNat 1, true, r')
    | (none, r') => if s.1 x = 0 then some (cy + coN (qq x) (tiS v s x r.1).toInt.toNat, tu + max (tiS v s x r.1).toInt.toNat 1, false, r') else rnS d (nxS v f s x r'.1) (tu + max (tiS v s x r.1).toInt.toNat 1) (cy + coN (qq x) (tiS v s x r.1).toInt.toNat) r'
end RN
theorem ptS_oc {O : Op} {n : Nat} (hn : n ≤ 10) : ∀ t pa r, (ptS O n t pa r).2.2.2.1 ≤ r.2.2.1 + 10 * t ∧ ∀ a k, (ptS O n t pa r).1 = some (a, k) → pa ≤ a ∧ a < pa + t ∧ k < n := fun t => by
  induction t with
  | zero => exact fun pa r => ⟨Nat.le_refl _, fun a k h => by cases h⟩
  | succ t ih =>
    intro pa r
    have h1 := psS_oc (O := O) n 0 r
    rw [ptS]
    cases q : psS O n 0 r with
    | mk w r' =>
      rw [q] at h1
      have h1' : r'.2.2.1 ≤ r.2.2.1 + n := h1.1
      cases w with
      | some k =>
        have h2 := h1.2 k rfl
        refine ⟨?_, fun a k' h => ?_⟩
        · show r'.2.2.1 ≤ _
          omega
        · cases h
          omega
      | none =>
        have h2 := ih (pa + 1) r'
        refine ⟨?_, fun a k' h => ?_⟩
        · show (ptS O n t (pa + 1) r').2.2.2.1 ≤ _
          omega
        · have := h2.2 a k' h
          omega
section RO
variable {v : Nat → Int32} {f : Nat → Nat} {nb : Nat} {s : Ss} {qq : Nat → Pq} {mp : Mp} {o o2 : Nat}
theorem nx_ok (hs : SIv v f nb s) {x : Nat} (hx : x < nb) (hg : s.2.2.2.1 x = false) (he : ¬ s.1 x = 0) (va : Nat → Int32) : nxS v f s x va < nb ∧ s.2.2.2.1 (nxS v f s x va) = false := by
  have h1 := hs.1 x hx
  have h2 := hs.2.1 x hx hg
  unfold nxS
  split
  · rename_i e
    split
    · exact ⟨h1.2.1 e, h2.2 e⟩
    · exact ⟨h1.1 he, h2.1 he⟩
  · exact ⟨h1.1 he, h2.1 he⟩
theorem rnS_rng (hs : SIv v f nb s) (hq : ∀ x, x < nb → s.2.2.2.1 x = false → ∃ M e L p, PN M e (s.2.2.1 x) L p (qq x)) : ∀ d x tu cy r, x < nb → s.2.2.2.1 x = false → r.2.2.1 ≤ 10 * tu → ∀ c tu' tr r', rnS v f s qq d x tu cy r = some (c, tu', tr, r') → cy + 1 ≤ c ∧ c ≤ cy + 20000 * d ∧ tu' ≤ 100 ∧ r'.2.2.1 ≤ 1000 := fun d => by
  induction d with
  | zero => exact fun x tu cy r _ _ _ c tu' tr r' h => by cases h
  | succ d ih =>
    intro x tu cy r hx hg hoc c tu' tr r' h
    obtain ⟨M, e, L, p, hP⟩ := hq x hx hg
    have hn := (hs.1 x hx).2.2.2.2.1
    rw [rnS] at h
    by_cases q : 100 < (tu : Int) + max (tiS v s x r.1).toInt 1
    · rw [if_pos q] at h
      cases h
    · rw [if_neg q] at h
      have h1 := ptS_oc (O := s.2.2.2.2 x) hn (tiS v s x r.1).toInt.toNat 0 r
      cases w : ptS (s.2.2.2.2 x) (s.2.2.1 x) (tiS v s x r.1).toInt.toNat 0 r with
      | mk w1 r1 =>
        rw [w] at h h1
        have h1' : r1.2.2.1 ≤ r.2.2.1 + 10 * (tiS v s x r.1).toInt.toNat := h1.1
        cases w1 with
        | some ak =>
          obtain ⟨a, k⟩ := ak
          have h2 := h1.2 a k rfl
          have h3 := cuN_rng hP (pa := a) (k := k) (by omega) h2.2.2
          have h' : some (cy + cuN (qq x) a k, tu + max (tiS v s x r.1).toInt.toNat 1, true, r1) = some (c, tu', tr, r') := h
          cases h'
          omega
        | none =>
          have h3 := coN_rng hP (tn := (tiS v s x r.1).toInt.toNat) (by omega)
          have h' : (if s.1 x = 0 then some (cy + coN (qq x) (tiS v s x r.1).toInt.toNat, tu + max (tiS v s x r.1).toInt.toNat 1, false, r1) else rnS v f s qq d (nxS v f s x r1.1) (tu + max (tiS v s x r.1).toInt.toNat 1) (cy + coN (qq x) (tiS v s x r.1).toInt.toNat) r1) = some (c, tu', tr, r') := h
          by_cases q2 : s.1 x = 0
          · rw [if_pos q2] at h'
            cases h'
            omega
          · rw [if_neg q2] at h'
            have h4 := nx_ok hs hx hg q2 r1.1
            have h5 := ih _ _ _ r1 h4.1 h4.2 (by omega) c tu' tr r' h'
            omega
def frA (o : Nat) (M0 M : Mem) : Prop := ∀ x j, ¬ (o ≤ x ∧ x ≤ o + 3) → M x j = M0 x j
/-- what a run of the class stands on -/
def CX (v : Nat → Int32) (f : Nat → Nat) (nb : Nat) (s : Ss) (qq : Nat → Pq) (mp : Mp) (o : Nat) (M : Mem) : Prop := M 0 9 = nI o ∧ BRl v f nb M s ∧ ∀ x, x < nb → s.2.2.2.1 x = false → PN M (s.1 x) (s.2.2.1 x) (LtO mp (s.2.2.2.2 x)) (19 + 18 * x) (qq x)
theorem CX_fr {M' : Mem} (h6 : nb ≤ 6) (hf : ∀ x j, x ≤ 112 → M' x j = M x j) (h : CX v f nb s qq mp o M) : CX v f nb s qq mp o M' := by
  obtain ⟨h1, h2, h3⟩ := h
  refine ⟨(hf _ _ (by omega)).trans h1, fun z hz => ?_, fun x hx hg => PN_fr (pl_of (by omega)) (fun a j _ h => hf a j h) (h3 x hx hg)⟩
  obtain ⟨a0, a1, a2, a3, a4, a5, a6⟩ := h2 z hz
  exact ⟨(hf _ _ (by omega)).trans a0, (hf _ _ (by omega)).trans a1, (hf _ _ (by omega)).trans a2, (hf _ _ (by omega)).trans a3, (hf _ _ (by omega)).trans a4, (hf _ _ (by omega)).trans a5, fun q hq j hj => (hf _ _ (by omega)).trans (a6 q hq j hj)⟩
theorem frT_low {M' : Mem} (ho : isOc o) (h : frT o M M') : ∀ x j, x ≤ 112 → M' x j = M x j := fun x j hx => by
  have := oc_rng ho
  exact h x j (fun z => by omega) (by omega)
theorem i91 (hκ : Rd κ) (ho : isOc o) (h6 : nb ≤ 6) (hs : SIv v f nb s) : ∀ d x tu cy come (M : Mem) (r : Rs), come + d = 100 → x < nb → s.2.2.2.1 x = false → CX v f nb s qq mp o M → RC M o r → M o 1 = nI tu → M o 2 = 0 → tu ≤ 100 → r.2.2.1 ≤ 10 * tu →
    (KA : rnS v f s qq d x tu cy r = none → ∀ M', frA o M M' → Q (.inl (some (.int (-1))), M', κ)) →
    (KB : ∀ c tu' tr r', rnS v f s qq d x tu cy r = some (c, tu', tr, r') → ∀ M', frA o M M' → RC M' o r' → M' o 1 = nI tu' → M' o 2 = bI tr → Q (.inl (some (.int (nI c))), M', κ)) →
    RT 91 (20, [.ref 0, .int (nI cy), .int (nI x), .int (nI come), UU, UU], [], M, κ) Q := fun d => by
  induction d with
  | zero =>
    intro x tu cy come M r hd hx hg hC hR h1 h2 htu hoc KA KB
    obtain ⟨b0, b1, b2, b3, b4, b5, b6⟩ := hC.2.1 x hx
    exact S91_20 hκ (by omega) ho hC.1 b0 b1 (by omega) (fun z => absurd z (by omega)) (fun z => absurd z (by omega)) (fun _ => KA rfl M (fun _ _ _ => rfl))
  | succ d ih =>
    intro x tu cy come M r hd hx hg hC hR h1 h2 htu hoc KA KB
    obtain ⟨b0, b1, b2, b3, b4, b5, b6⟩ := hC.2.1 x hx
    obtain ⟨s1, s2, s3, s4, s5, s6, s7, s8⟩ := hs.1 x hx
    have hv := v12 s8
    have hx6 : x < 6 := by omega
    refine S91_20 hκ hx6 ho hC.1 b0 b1 (by omega) (fun _ _ => hv.1) (fun _ => ?_) (fun z => absurd (by omega) z)
    have eT : (if s.1 x = 3 then (mx (M (o + 2) (v x).toNatClampNeg) 0) else 1) = mx (tiS v s x r.1) 0 := by
      unfold tiS
      split
      · rw [hR.2.2.1 _ hv.2]
      · rfl
    rw [eT]
    have mT : (mx (tiS v s x r.1) 0).toInt = max (tiS v s x r.1).toInt 0 := by rw [mx_toInt, c0]
    refine S91_66 hκ hx6 ho hC.1 (f51 hκ ho htu h1 (fun a => ?_) (fun a => ?_))
    · refine ⟨_, _, _, rfl, S91_75 (ok := false) hκ hx6 ho hC.1 (fun z => by cases z) (fun _ => KA ?_ M (fun _ _ _ => rfl))⟩
      rw [rnS, if_pos (by omega)]
    · refine ⟨_, _, _, rfl, ?_⟩
      rw [mT] at a
      have eN : mx (tiS v s x r.1) 0 = nI (tiS v s x r.1).toInt.toNat := by
        apply Int32.toInt_inj.mp
        rw [mT, nI_toInt (by omega)]
        omega
      have hno : ¬ 100 < (tu : Int) + max (tiS v s x r.1).toInt 1 := by omega
      rw [eN]
      have eM : (max (nI (tiS v s x r.1).toInt.toNat).toInt.toNat 1) = max (tiS v s x r.1).toInt.toNat 1 := by
        rw [nI_toInt (by omega)]
        omega
      rw [eM]
      have ht : (tiS v s x r.1).toInt.toNat ≤ 100 := by omega
      have htu' : tu + max (tiS v s x r.1).toInt.toNat 1 ≤ 100 := by omega
      have hoc2 := ptS_oc (O := s.2.2.2.2 x) s5 (tiS v s x r.1).toInt.toNat 0 r
      have eR : rnS v f s qq (d + 1) x tu cy r = (match ptS (s.2.2.2.2 x) (s.2.2.1 x) (tiS v s x r.1).toInt.toNat 0 r with
        | (some (pa, k), r') => some (cy + cuN (qq x) pa k, tu + max (tiS v s x r.1).toInt.toNat 1, true, r')
        | (none, r') => if s.1 x = 0 then some (cy + coN (qq x) (tiS v s x r.1).toInt.toNat, tu + max (tiS v s x r.1).toInt.toNat 1, false, r') else rnS v f s qq d (nxS v f s x r'.1) (tu + max (tiS v s x r.1).toInt.toNat 1) (cy + coN (qq x) (tiS v s x r.1).toInt.toNat) r') := by
        rw [rnS, if_neg hno]
      generalize (tiS v s x r.1).toInt.toNat = tn at ht htu' hoc2 eR
      have or := oc_rng ho
      have hfA : ∀ x j, x ≤ 112 → stM M o 1 (nI (tu + max tn 1)) x j = M x j := fun x j h => stM_o (by omega)
      have hC1 := CX_fr h6 hfA hC
      obtain ⟨d0, d1, d2, d3, d4, d5, d6⟩ := hC1.2.1 x hx
      refine S91_75 (ok := true) hκ hx6 ho hC1.1 (fun _ => ?_) (fun z => absurd rfl z)
      have hR1 : RC (stM M o 1 (nI (tu + max tn 1))) o r := by
        obtain ⟨r1, r2, r3, r4⟩ := hR
        exact ⟨(stM_j (by decide)).trans r1, fun i a b => (stM_o (by omega)).trans (r2 i a b), fun i a => (stM_o (by omega)).trans (r3 i a), fun i a => (stM_o (by omega)).trans (r4 i a)⟩
      refine f92 (e := s.1 x) (L := LtO mp (s.2.2.2.2 x)) (q := qq x) hκ (bl_b hx6) (pl_of hx6) ho s5 s6 ht ⟨d4, d6, hC1.2.2 x hx hg, hC1.1⟩ hR1 ((stM_j (by decide)).trans h2) (by omega) (fun pa k r' e1 M' hf hR' h2' => ?_) (fun r' e1 M' hf hR' => ?_)
      · refine ⟨_, _, _, rfl, ?_⟩
        have hC2 := CX_fr h6 (frT_low ho hf) hC1
        obtain ⟨g0, g1, g2, g3, g4, g5, g6⟩ := hC2.2.1 x hx
        refine w_weak (lle_s (lle_u (lle_s (lle_s (lle_s (lle_u lle_n)))))) (S91_95 hκ hx6 ho hC2.1 g0 g1 g2 g3 (by omega) (fun z => absurd (h2'.symm.trans z) (by decide)) (fun _ => ?_) (fun z => absurd (h2'.symm.trans z) (by decide)))
        rw [nI_add]
        rw [e1] at eR
        refine KB _ _ _ _ eR M' (fun a j ha => (hf a j (by omega) (by omega)).trans (stM_o (by omega))) hR' ?_ h2'
        exact (hf o 1 (by omega) (by omega)).trans stM_s
      · refine ⟨_, _, _, rfl, ?_⟩
        have hC2 := CX_fr h6 (frO_low ho hf) hC1
        obtain ⟨g0, g1, g2, g3, g4, g5, g6⟩ := hC2.2.1 x hx
        have h2' : M' o 2 = 0 := (hf o 2 (by omega) (by omega)).trans ((stM_j (by decide)).trans h2)
        have h1' : M' o 1 = nI (tu + max tn 1) := (hf o 1 (by omega) (by omega)).trans stM_s
        have hfr : frA o M M' := fun a j ha => (hf a j (by omega) (by omega)).trans (stM_o (by omega))
        rw [e1] at eR hoc2
        have hoc3 : r'.2.2.1 ≤ r.2.2.1 + 10 * tn := hoc2.1
        refine w_weak (lle_s (lle_u (lle_s (lle_s (lle_s (lle_u lle_n)))))) (S91_95 hκ hx6 ho hC2.1 g0 g1 g2 g3 (by omega) (fun _ _ _ => hv.1) (fun z => ?_) (fun _ he => ?_))
        · have he : s.1 x = 0 := z.elim (fun y => y.2) (fun y => absurd h2' y)
          rw [nI_add]
          refine KB _ _ _ _ (eR.trans (if_pos he)) M' hfr hR' h1' h2'
        · have hnx := nx_ok hs hx hg he r'.1
          have eX : (if s.1 x = 2 then (if M' (o + 2) (v x).toNatClampNeg = 0 then f x else s.2.1 x) else s.2.1 x) = nxS v f s x r'.1 := by
            rw [hR'.2.2.1 _ hv.2]
            rfl
          rw [eX, nI_add]
          have eR' := eR.trans (if_neg he)
          refine ih _ _ _ _ M' r' (by omega) hnx.1 hnx.2 hC2 hR' h1' h2' htu' (by omega) (fun z M2 hf2 => KA (eR'.trans z) M2 (fun a j ha => (hf2 a j ha).trans (hfr a j ha))) (fun c tu2 tr r2 z M2 hf2 => KB c tu2 tr r2 (eR'.trans z) M2 (fun a j ha => (hf2 a j ha).trans (hfr a j ha)))
theorem f91 (hκ : Rd κ) (ho : isOc o) (ho2 : isOc o2) (hne : ¬ o = o2) (h6 : nb ≤ 6) (h0 : ¬ nb = 0) (hs : SIv v f nb s) (hC : CX v f nb s qq mp o M) (h8 : M 0 8 = nI o2) {me : Nat → Int32} (hme : ∀ i, i < 64 → M (o2 + 3) i = me i)
    (KA : rnS v f s qq 100 0 0 0 (fun _ => 0, me, 0, fun _ => 0) = none → ∀ M', frA o M M' → Q (.inl (some (.int (-1))), M', κ))
    (KB : ∀ c tu' tr r', rnS v f s qq 100 0 0 0 (fun _ => 0, me, 0, fun _ => 0) = some (c, tu', tr, r') → ∀ M', frA o M M' → RC M' o r' → M' o 1 = nI tu' → M' o 2 = bI tr → Q (.inl (some (.int (nI c))), M', κ)) : RT 91 (0, entL 91 [.ref 0], [], M, κ) Q := by
  have or := oc_rng ho
  refine S91_0 hκ ho ho2 hC.1 h8 (f50 hκ ho ho2 hne (fun _ => 0) (fun M' hf hR h1 h2 => ⟨_, _, _, rfl, S91_14 hκ ?_⟩))
  have hC' := CX_fr h6 (fun x j hx => hf x j (by omega) (by omega)) hC
  have hfr : frA o M M' := fun a j ha => hf a j (by omega) (by omega)
  exact i91 hκ ho h6 hs 100 0 0 0 0 M' (fun _ => 0, me, 0, fun _ => 0) rfl (by omega) hs.2.2 hC' ⟨hR.1, hR.2.1, hR.2.2.1, fun i hi => (hR.2.2.2 i hi).trans (hme i hi)⟩ h1 h2 (by omega) (Nat.zero_le _) (fun z M2 hf2 => KA z M2 (fun a j ha => (hf2 a j ha).trans (hfr a j ha))) (fun c tu2 tr r2 z M2 hf2 => KB c tu2 tr r2 z M2 (fun a j ha => (hf2 a j ha).trans (hfr a j ha)))
/-- run, the class -/
theorem f72 (hκ : Rd κ) (ho : isOc o) (ho2 : isOc o2) (hne : ¬ o = o2) {cf : Bool} (hcf : M 0 7 = bI cf) (h6 : nb ≤ 6) (h0 : ¬ nb = 0) (hs : SIv v f nb s) (hC : cf = true → CX v f nb s qq mp o M) (h9 : M 0 9 = nI o) (h8 : M 0 8 = nI o2) {me : Nat → Int32} (hme : ∀ i, i < 64 → M (o2 + 3) i = me i)
    (K1 : cf = false → Q (.inr 1, M, (κ.1, κ.2.1, κ.2.2.1, kN κ, kC κ + 1, kU κ + 6)))
    (K2 : cf = true → rnS v f s qq 100 0 0 0 (fun _ => 0, me, 0, fun _ => 0) = none → ∀ M', frA o M M' → Q (.inr 3, M', (κ.1, κ.2.1, κ.2.2.1, kN κ, kC κ + 1, kU κ + 6)))
    (K3 : cf = true → ∀ c tu' tr r', rnS v f s qq 100 0 0 0 (fun _ => 0, me, 0, fun _ => 0) = some (c, tu', tr, r') → c ≤ 2000000 → ∀ M', frA o M M' → RC M' o r' → M' o 1 = nI tu' → M' o 2 = bI tr → Q (.inl (some (.int (nI c))), stM (stM M' 0 9 (nI o2)) 0 8 (nI o), κ)) : RT 72 (0, entL 72 [.ref 0], [], M, κ) Q := by
  have or := oc_rng ho
  refine S72_0 hκ hcf (fun c => ?_) (fun c => K1 (by cases cf; rfl; exact absurd rfl c))
  have hX := hC c
  refine f91 hκ ho ho2 hne h6 h0 hs hX h8 hme (fun z M' hf => ?_) (fun cc tu tr r' z M' hf hR h1 h2 => ?_)
  · exact ⟨_, _, _, rfl, S72_19 hκ ho ho2 ((hf 0 9 (by omega)).trans h9) ((hf 0 8 (by omega)).trans h8) (fun _ => K2 c z M' hf) (fun y => absurd rfl y)⟩
  · have hr := rnS_rng (qq := qq) hs (fun x hx hg => ⟨M, _, _, _, hX.2.2 x hx hg⟩) 100 0 0 0 _ (by omega) hs.2.2 (Nat.zero_le _) cc tu tr r' z
    exact ⟨_, _, _, rfl, S72_19 hκ ho ho2 ((hf 0 9 (by omega)).trans h9) ((hf 0 8 (by omega)).trans h8) (fun y => absurd y (nI_m1 (by omega))) (fun _ => K3 c cc tu tr r' z (by omega) M' hf hR h1 h2)⟩
end RO
end P_50_runc
