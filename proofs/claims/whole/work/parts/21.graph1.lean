/-! THE GRAPH: offsets -/
section P_21_graph1
variable {Q : Ou → Prop} {M M0 : Mem} {κ : Kp}
theorem stM_n {k j k' j' : Nat} {v : Int32} (h : ¬ (k' = k ∧ j' = j)) : stM M k j v k' j' = M k' j' := if_neg h
abbrev Op : Type := Nat → Nat → Int32
def wr (O : Op) (k : Nat) : Int32 := wrF (O 0 k) (O 1 k)
def rd (O : Op) (k : Nat) (v : Int32) : Bool := rdF (O 0 k) (O 2 k) (O 3 k) (O 5 k) v
def stp (O : Op) (k : Nat) : Bool := stpF (O 0 k) (O 1 k) (O 2 k) (O 5 k)
/-- how many write v, and the last that does -/
def cwt (O : Op) (v : Int32) : Nat → Nat
  | 0 => 0
  | m + 1 => if wr O m = v then cwt O v m + 1 else cwt O v m
def lw (O : Op) (v : Int32) : Nat → Nat
  | 0 => 0
  | m + 1 => if wr O m = v then m else lw O v m
def sw (O : Op) (v : Int32) (k : Nat) : Nat → Int32
  | 0 => O 4 k
  | m + 1 => if wr O m = v then sw O v k m + (if m < k then O 4 m else 0) else sw O v k m
def loo (O : Op) (v : Int32) (m : Nat) : Int32 := if cwt O v m = 0 then 0 else bI (decide (1 < cwt O v m) || !stp O (lw O v m))
def amo (O : Op) (v : Int32) (m : Nat) : Int32 := if cwt O v m = 0 then 0 else O 4 (lw O v m)
theorem cwt_le (O : Op) (v : Int32) : ∀ m, cwt O v m ≤ m
  | 0 => Nat.le_refl 0
  | m + 1 => by
    have := cwt_le O v m
    unfold cwt
    split <;> omega
theorem i_24_0 : ins 24 0 = some (.aload_n 0, 1, 0, 0, 0, 0) := rfl
theorem i_24_1 : ins 24 1 = some (.getfield 42, 4, 1, 9, 0, 0) := rfl
theorem i_24_4 : ins 24 4 = some (.iload_n 2, 5, 2, 0, 0, 0) := rfl
theorem i_24_5 : ins 24 5 = some (.iconst 0, 6, 0, 0, 0, 0) := rfl
theorem i_24_6 : ins 24 6 = some (.bastore, 7, 0, 0, 0, 0) := rfl
theorem i_24_7 : ins 24 7 = some (.aload_n 0, 8, 0, 0, 0, 0) := rfl
theorem i_24_8 : ins 24 8 = some (.getfield 45, 11, 1, 10, 0, 0) := rfl
theorem i_24_11 : ins 24 11 = some (.iload_n 2, 12, 2, 0, 0, 0) := rfl
theorem i_24_12 : ins 24 12 = some (.aload_n 1, 13, 1, 0, 0, 0) := rfl
theorem i_24_13 : ins 24 13 = some (.getfield 117, 16, 0, 10, 0, 0) := rfl
theorem i_24_16 : ins 24 16 = some (.iload_n 2, 17, 2, 0, 0, 0) := rfl
theorem i_24_17 : ins 24 17 = some (.iaload, 18, 0, 0, 0, 0) := rfl
theorem i_24_18 : ins 24 18 = some (.iastore, 19, 0, 0, 0, 0) := rfl
theorem i_24_19 : ins 24 19 = some (.aload_n 0, 20, 0, 0, 0, 0) := rfl
theorem i_24_20 : ins 24 20 = some (.getfield 48, 23, 1, 11, 0, 0) := rfl
theorem i_24_23 : ins 24 23 = some (.iload_n 2, 24, 2, 0, 0, 0) := rfl
theorem i_24_24 : ins 24 24 = some (.iconst 0, 25, 0, 0, 0, 0) := rfl
theorem i_24_25 : ins 24 25 = some (.iastore, 26, 0, 0, 0, 0) := rfl
theorem i_24_26 : ins 24 26 = some (.iconst 0, 27, 0, 0, 0, 0) := rfl
theorem i_24_27 : ins 24 27 = some (.istore_n 3, 28, 3, 0, 0, 0) := rfl
theorem i_24_28 : ins 24 28 = some (.iconst 0, 29, 0, 0, 0, 0) := rfl
theorem i_24_29 : ins 24 29 = some (.istore 4, 31, 4, 0, 0, 0) := rfl
theorem i_24_31 : ins 24 31 = some (.iload 4, 33, 4, 0, 0, 0) := rfl
theorem i_24_33 : ins 24 33 = some (.aload_n 1, 34, 1, 0, 0, 0) := rfl
theorem i_24_34 : ins 24 34 = some (.getfield 51, 37, 0, 4, 0, 0) := rfl
theorem i_24_37 : ins 24 37 = some (.if_icmp .ge 91, 40, 128, 0, 0, 0) := rfl
theorem i_24_40 : ins 24 40 = some (.aload_n 1, 41, 1, 0, 0, 0) := rfl
theorem i_24_41 : ins 24 41 = some (.iload 4, 43, 4, 0, 0, 0) := rfl
theorem i_24_43 : ins 24 43 = some (.invokevirtual 86, 46, 9, 0, 2, 0) := rfl
theorem i_24_46 : ins 24 46 = some (.aload_n 1, 47, 1, 0, 0, 0) := rfl
theorem i_24_47 : ins 24 47 = some (.getfield 111, 50, 0, 8, 0, 0) := rfl
theorem i_24_50 : ins 24 50 = some (.iload_n 2, 51, 2, 0, 0, 0) := rfl
theorem i_24_51 : ins 24 51 = some (.iaload, 52, 0, 0, 0, 0) := rfl
theorem i_24_52 : ins 24 52 = some (.if_icmp .ne 70, 55, 122, 0, 0, 0) := rfl
theorem i_24_55 : ins 24 55 = some (.iinc 3 1, 58, 3, 0, 0, 1) := rfl
theorem i_24_58 : ins 24 58 = some (.aload_n 0, 59, 0, 0, 0, 0) := rfl
theorem i_24_59 : ins 24 59 = some (.getfield 42, 62, 1, 9, 0, 0) := rfl
theorem i_24_62 : ins 24 62 = some (.iload_n 2, 63, 2, 0, 0, 0) := rfl
theorem i_24_63 : ins 24 63 = some (.iload_n 3, 64, 3, 0, 0, 0) := rfl
theorem i_24_64 : ins 24 64 = some (.iconst 1, 65, 0, 0, 0, 1) := rfl
theorem i_24_65 : ins 24 65 = some (.if_icmp .gt 12, 68, 77, 0, 0, 0) := rfl
theorem i_24_68 : ins 24 68 = some (.aload_n 1, 69, 1, 0, 0, 0) := rfl
theorem i_24_69 : ins 24 69 = some (.iload 4, 71, 4, 0, 0, 0) := rfl
theorem i_24_71 : ins 24 71 = some (.invokevirtual 120, 74, 13, 0, 2, 0) := rfl
theorem i_24_74 : ins 24 74 = some (.ifCond .ne 7, 77, 81, 0, 0, 0) := rfl
theorem i_24_77 : ins 24 77 = some (.iconst 1, 78, 0, 0, 0, 1) := rfl
theorem i_24_78 : ins 24 78 = some (.goto 4, 81, 82, 0, 0, 0) := rfl
theorem i_24_81 : ins 24 81 = some (.iconst 0, 82, 0, 0, 0, 0) := rfl
theorem i_24_82 : ins 24 82 = some (.bastore, 83, 0, 0, 0, 0) := rfl
theorem i_24_83 : ins 24 83 = some (.aload_n 0, 84, 0, 0, 0, 0) := rfl
theorem i_24_84 : ins 24 84 = some (.getfield 48, 87, 1, 11, 0, 0) := rfl
theorem i_24_87 : ins 24 87 = some (.iload_n 2, 88, 2, 0, 0, 0) := rfl
theorem i_24_88 : ins 24 88 = some (.aload_n 1, 89, 1, 0, 0, 0) := rfl
theorem i_24_89 : ins 24 89 = some (.getfield 117, 92, 0, 10, 0, 0) := rfl
theorem i_24_92 : ins 24 92 = some (.iload 4, 94, 4, 0, 0, 0) := rfl
theorem i_24_94 : ins 24 94 = some (.iaload, 95, 0, 0, 0, 0) := rfl
theorem i_24_95 : ins 24 95 = some (.iastore, 96, 0, 0, 0, 0) := rfl
theorem i_24_96 : ins 24 96 = some (.aload_n 0, 97, 0, 0, 0, 0) := rfl
theorem i_24_97 : ins 24 97 = some (.getfield 45, 100, 1, 10, 0, 0) := rfl
theorem i_24_100 : ins 24 100 = some (.iload_n 2, 101, 2, 0, 0, 0) := rfl
theorem i_24_101 : ins 24 101 = some (.dup2, 102, 0, 0, 0, 0) := rfl
theorem i_24_102 : ins 24 102 = some (.iaload, 103, 0, 0, 0, 0) := rfl
theorem i_24_103 : ins 24 103 = some (.iload 4, 105, 4, 0, 0, 0) := rfl
theorem i_24_105 : ins 24 105 = some (.iload_n 2, 106, 2, 0, 0, 0) := rfl
theorem i_24_106 : ins 24 106 = some (.if_icmp .ge 13, 109, 119, 0, 0, 0) := rfl
theorem i_24_109 : ins 24 109 = some (.aload_n 1, 110, 1, 0, 0, 0) := rfl
theorem i_24_110 : ins 24 110 = some (.getfield 117, 113, 0, 10, 0, 0) := rfl
theorem i_24_113 : ins 24 113 = some (.iload 4, 115, 4, 0, 0, 0) := rfl
theorem i_24_115 : ins 24 115 = some (.iaload, 116, 0, 0, 0, 0) := rfl
theorem i_24_116 : ins 24 116 = some (.goto 4, 119, 120, 0, 0, 0) := rfl
theorem i_24_119 : ins 24 119 = some (.iconst 0, 120, 0, 0, 0, 0) := rfl
theorem i_24_120 : ins 24 120 = some (.iadd, 121, 0, 0, 0, 0) := rfl
theorem i_24_121 : ins 24 121 = some (.iastore, 122, 0, 0, 0, 0) := rfl
theorem i_24_122 : ins 24 122 = some (.iinc 4 1, 125, 4, 0, 0, 1) := rfl
theorem i_24_125 : ins 24 125 = some (.goto (-94), 128, 31, 0, 0, 0) := rfl
theorem i_24_128 : ins 24 128 = some (.return_, 129, 0, 0, 0, 0) := rfl
theorem S24_0 {Q : Ou → Prop} {M : Mem} {κ : Kp} (hκ : Rd κ) {b n k w : Nat} {O : Op} (hb : isBl b) (hk : k < n) (hn : n ≤ 10) (hw : w ≤ n) (hc : M b 4 = nI n) (hO : ∀ f, f < 6 → ∀ j, j < n → M (b + 1 + f) j = O f j) 
    (k1 : RT 24 (31, [.ref 113, .ref b, .int (nI k), .int 0, .int (nI 0)], [], (stM (stM (stM M 119 k 0) 120 k (O 4 k)) 121 k 0), κ) Q)
    : RT 24 (0, [.ref 113, .ref b, .int (nI k), UU, UU], [], M, κ) Q := by
  refine w_load i_24_0 rfl rfl ?_
  refine w_getR 119 i_24_1 hκ (⟨rfl, by decide⟩ : isOb 113 1) rfl rfl ?_
  refine w_load i_24_4 rfl rfl ?_
  refine w_push i_24_5 rfl ?_
  refine w_zastN (e := k) i_24_6 hκ (⟨rfl, rfl, by decide⟩ : isZr 119 10) (by omega) (by decide) rfl ?_
  refine w_load i_24_7 rfl rfl ?_
  refine w_getR 120 i_24_8 hκ (⟨rfl, by decide⟩ : isOb 113 1) rfl rfl ?_
  refine w_load i_24_11 rfl rfl ?_
  refine w_load i_24_12 rfl rfl ?_
  refine w_getR (b + 5) i_24_13 hκ (bl_ob hb) rfl rfl ?_
  refine w_load i_24_16 rfl rfl ?_
  refine w_ialdN (e := k) (v := (O 4 k)) i_24_17 hκ (bl_ar hb 5 (by decide)) (by omega) (by decide) ((stM_o (by have := bl_rng hb; omega)).trans (hO 4 (by decide) k (by omega))) ?_
  refine w_iastN (e := k) i_24_18 hκ (⟨rfl, rfl, by decide⟩ : isAr 120 10) (by omega) (by decide) ?_
  refine w_load i_24_19 rfl rfl ?_
  refine w_getR 121 i_24_20 hκ (⟨rfl, by decide⟩ : isOb 113 1) rfl rfl ?_
  refine w_load i_24_23 rfl rfl ?_
  refine w_push i_24_24 rfl ?_
  refine w_iastN (e := k) i_24_25 hκ (⟨rfl, rfl, by decide⟩ : isAr 121 10) (by omega) (by decide) ?_
  refine w_push i_24_26 rfl ?_
  refine w_store (l1 := [.ref 113, .ref b, .int (nI k), .int 0, UU]) i_24_27 rfl (Nat.le_of_ble_eq_true rfl) rfl ?_
  refine w_push i_24_28 rfl ?_
  refine w_store (l1 := [.ref 113, .ref b, .int (nI k), .int 0, .int 0]) i_24_29 rfl (Nat.le_of_ble_eq_true rfl) rfl ?_
  exact (k1)
theorem S24_31 {Q : Ou → Prop} {M : Mem} {κ : Kp} (hκ : Rd κ) {b n k w : Nat} {O : Op} (hb : isBl b) (hk : k < n) (hn : n ≤ 10) (hw : w ≤ n) (hc : M b 4 = nI n) (hO : ∀ f, f < 6 → ∀ j, j < n → M (b + 1 + f) j = O f j) {ws : Int32}
    (k1 : w < n → RT 24 (31, [.ref 113, .ref b, .int (nI k), .int (if (wrF (O 0 w) (O 1 w)) = (O 2 k) then (ws + 1) else ws), .int (nI (w + 1))], [], (if (wrF (O 0 w) (O 1 w)) = (O 2 k) then (stM (stM (stM M 119 k (bI (if 1 < (ws + 1) then true else (if (stpF (O 0 w) (O 1 w) (O 2 w) (O 5 w)) = true then false else true)))) 121 k (O 4 w)) 120 k ((M 120 k) + (if w < k then (O 4 w) else 0))) else M), κ) Q)
    (k2 : ¬ (w < n) → Q (.inl none, M, κ))
    : RT 24 (31, [.ref 113, .ref b, .int (nI k), .int ws, .int (nI w)], [], M, κ) Q := by
  refine w_load i_24_31 rfl rfl ?_
  refine w_load i_24_33 rfl rfl ?_
  refine w_getI (v := (nI n)) i_24_34 hκ (bl_ob hb) rfl (hc) ?_
  refine w_if2n (w < n) i_24_37 (cN_ge (a := w) (b := n) (by omega) (by omega)) ?_ ?_
  · intro h1
    refine w_load i_24_40 rfl rfl ?_
    refine w_load i_24_41 rfl rfl ?_
    refine w_callV (i := _) i_24_43 ⟨by decide, by decide, by decide, rfl⟩ hκ (bl_ob hb) (av := [.int (nI w)]) (rest := []) rfl rfl (Nat.le_of_ble_eq_true rfl) (v := some (.int (wrF (O 0 w) (O 1 w)))) (c9 hκ hb (by omega) (hO 0 (by decide) w (by omega)) (hO 1 (by decide) w (by omega))) ?_
    refine w_load i_24_46 rfl rfl ?_
    refine w_getR (b + 3) i_24_47 hκ (bl_ob hb) rfl rfl ?_
    refine w_load i_24_50 rfl rfl ?_
    refine w_ialdN (e := k) (v := (O 2 k)) i_24_51 hκ (bl_ar hb 3 (by decide)) (by omega) (by decide) (hO 2 (by decide) k (by omega)) ?_
    have K2 : RT 24 (122, [.ref 113, .ref b, .int (nI k), .int (if (wrF (O 0 w) (O 1 w)) = (O 2 k) then (ws + 1) else ws), .int (nI w)], [], (if (wrF (O 0 w) (O 1 w)) = (O 2 k) then (stM (stM (stM M 119 k (bI (if 1 < (ws + 1) then true else (if (stpF (O 0 w) (O 1 w) (O 2 w) (O 5 w)) = true then false else true)))) 121 k (O 4 w)) 120 k ((M 120 k) + (if w < k then (O 4 w) else 0))) else M), κ) Q := by
      refine w_iincN (n := w) (l1 := [.ref 113, .ref b, .int (nI k), .int (if (wrF (O 0 w) (O 1 w)) = (O 2 k) then (ws + 1) else ws), .int (nI (w + 1))]) 1 i_24_122 rfl rfl ?_
      refine w_goto i_24_125 ?_
      exact (k1 h1)
    refine w_if2n ((wrF (O 0 w) (O 1 w)) = (O 2 k)) i_24_52 cI_ne ?_ ?_
    · intro h3
      refine w_iinc (l1 := [.ref 113, .ref b, .int (nI k), .int (ws + 1), .int (nI w)]) i_24_55 rfl rfl ?_
      refine w_load i_24_58 rfl rfl ?_
      refine w_getR 119 i_24_59 hκ (⟨rfl, by decide⟩ : isOb 113 1) rfl rfl ?_
      refine w_load i_24_62 rfl rfl ?_
      refine w_load i_24_63 rfl rfl ?_
      refine w_push i_24_64 rfl ?_
      have K4 : RT 24 (82, [.ref 113, .ref b, .int (nI k), .int (ws + 1), .int (nI w)], [.int (bI (if 1 < (ws + 1) then true else (if (stpF (O 0 w) (O 1 w) (O 2 w) (O 5 w)) = true then false else true))), .int (nI k), .ref 119], M, κ) Q := by
        refine w_zastN (e := k) i_24_82 hκ (⟨rfl, rfl, by decide⟩ : isZr 119 10) (by omega) (by decide) (isB_bI _) ?_
        refine w_load i_24_83 rfl rfl ?_
        refine w_getR 121 i_24_84 hκ (⟨rfl, by decide⟩ : isOb 113 1) rfl rfl ?_
        refine w_load i_24_87 rfl rfl ?_
        refine w_load i_24_88 rfl rfl ?_
        refine w_getR (b + 5) i_24_89 hκ (bl_ob hb) rfl rfl ?_
        refine w_load i_24_92 rfl rfl ?_
        refine w_ialdN (e := w) (v := (O 4 w)) i_24_94 hκ (bl_ar hb 5 (by decide)) (by omega) (by decide) ((stM_o (by have := bl_rng hb; omega)).trans (hO 4 (by decide) w (by omega))) ?_
        refine w_iastN (e := k) i_24_95 hκ (⟨rfl, rfl, by decide⟩ : isAr 121 10) (by omega) (by decide) ?_
        refine w_load i_24_96 rfl rfl ?_
        refine w_getR 120 i_24_97 hκ (⟨rfl, by decide⟩ : isOb 113 1) rfl rfl ?_
        refine w_load i_24_100 rfl rfl ?_
        refine w_dup2 i_24_101 rfl rfl ?_
        refine w_ialdN (e := k) (v := (M 120 k)) i_24_102 hκ (⟨rfl, rfl, by decide⟩ : isAr 120 10) (by omega) (by decide) ((stM_o (by decide)).trans ((stM_o (by decide)).trans (rfl))) ?_
        refine w_load i_24_103 rfl rfl ?_
        refine w_load i_24_105 rfl rfl ?_
        have K5 : RT 24 (120, [.ref 113, .ref b, .int (nI k), .int (ws + 1), .int (nI w)], [.int (if w < k then (O 4 w) else 0), .int (M 120 k), .int (nI k), .ref 120], (stM (stM M 119 k (bI (if 1 < (ws + 1) then true else (if (stpF (O 0 w) (O 1 w) (O 2 w) (O 5 w)) = true then false else true)))) 121 k (O 4 w)), κ) Q := by
          refine w_bin (w := ((M 120 k) + (if w < k then (O 4 w) else 0))) i_24_120 rfl rfl ?_
          refine w_iastN (e := k) i_24_121 hκ (⟨rfl, rfl, by decide⟩ : isAr 120 10) (by omega) (by decide) ?_
          exact (by first | exact (K2) | (have K9 := K2; simp only [↓if_pos h3] at K9 ⊢; exact (K9)))
        refine w_if2n (w < k) i_24_106 (cN_ge (a := w) (b := k) (by omega) (by omega)) ?_ ?_
        · intro h6
          refine w_load i_24_109 rfl rfl ?_
          refine w_getR (b + 5) i_24_110 hκ (bl_ob hb) rfl rfl ?_
          refine w_load i_24_113 rfl rfl ?_
          refine w_ialdN (e := w) (v := (O 4 w)) i_24_115 hκ (bl_ar hb 5 (by decide)) (by omega) (by decide) ((stM_o (by have := bl_rng hb; omega)).trans ((stM_o (by have := bl_rng hb; omega)).trans (hO 4 (by decide) w (by omega)))) ?_
          refine w_goto i_24_116 ?_
          exact (by first | exact (K5) | (have K9 := K5; simp only [↓if_pos h6] at K9 ⊢; exact (K9)))
        · intro h7
          refine w_push i_24_119 rfl ?_
          exact (by first | exact (K5) | (have K9 := K5; simp only [↓if_neg h7] at K9 ⊢; exact (K9)))
      refine w_if2 (1 < (ws + 1)) i_24_65 cI_gt ?_ ?_
      · intro h8
        refine w_push i_24_77 rfl ?_
        refine w_goto i_24_78 ?_
        exact (by first | exact (K4) | (have K9 := K4; simp only [↓if_pos h8] at K9 ⊢; exact (K9)))
      · intro h9
        refine w_load i_24_68 rfl rfl ?_
        refine w_load i_24_69 rfl rfl ?_
        refine w_callV (i := _) i_24_71 ⟨by decide, by decide, by decide, rfl⟩ hκ (bl_ob hb) (av := [.int (nI w)]) (rest := [.int (nI k), .ref 119]) rfl rfl (Nat.le_of_ble_eq_true rfl) (v := some (.int (bI (stpF (O 0 w) (O 1 w) (O 2 w) (O 5 w))))) (c13 hκ hb (by omega) (hO 0 (by decide) w (by omega)) (hO 1 (by decide) w (by omega)) (hO 2 (by decide) w (by omega)) (hO 5 (by decide) w (by omega))) ?_
        refine w_if0 ((stpF (O 0 w) (O 1 w) (O 2 w) (O 5 w)) = true) i_24_74 cB_ne ?_ ?_
        · intro h10
          refine w_push i_24_81 rfl ?_
          exact (by first | exact (K4) | (have K9 := K4; simp only [↓if_neg h9, ↓if_pos h10] at K9 ⊢; exact (K9)))
        · intro h11
          refine w_push i_24_77 rfl ?_
          refine w_goto i_24_78 ?_
          exact (by first | exact (K4) | (have K9 := K4; simp only [↓if_neg h9, ↓if_neg h11] at K9 ⊢; exact (K9)))
    · intro h12
      exact (by first | exact (K2) | (have K9 := K2; simp only [↓if_neg h12] at K9 ⊢; exact (K9)))
  · intro h13
    exact w_vret i_24_128 rfl (k2 h13)
def fr24 (k : Nat) (M0 M : Mem) : Prop := ∀ o j, ¬ (j = k ∧ (o = 119 ∨ o = 120 ∨ o = 121)) → M o j = M0 o j
theorem l24 (hκ : Rd κ) {b n k : Nat} {O : Op} (hb : isBl b) (hk : k < n) (hn : n ≤ 10) (hc : M0 b 4 = nI n) (hO : ∀ f, f < 6 → ∀ j, j < n → M0 (b + 1 + f) j = O f j)
    (K : ∀ M', fr24 k M0 M' → M' 119 k = loo O (O 2 k) n → M' 120 k = sw O (O 2 k) k n → M' 121 k = amo O (O 2 k) n → Q (.inl none, M', κ)) :
    ∀ d w M, w + d = n → fr24 k M0 M → M 119 k = loo O (O 2 k) w → M 120 k = sw O (O 2 k) k w → M 121 k = amo O (O 2 k) w →
    RT 24 (31, [.ref 113, .ref b, .int (nI k), .int (nI (cwt O (O 2 k) w)), .int (nI w)], [], M, κ) Q := by
  have hr := bl_rng hb
  intro d
  induction d with
  | zero =>
    intro w M hw hf h1 h2 h3
    have e : w = n := by omega
    subst e
    exact S24_31 hκ hb hk hn (Nat.le_refl _) ((hf _ _ (by omega)).trans hc) (fun f hf' j hj => (hf _ _ (by omega)).trans (hO f hf' j hj)) (fun h => absurd h (Nat.lt_irrefl _)) (fun _ => K M hf h1 h2 h3)
  | succ d ih =>
    intro w M hw hf h1 h2 h3
    have hcw := cwt_le O (O 2 k) w
    refine S24_31 hκ hb hk hn (by omega) ((hf _ _ (by omega)).trans hc) (fun f hf' j hj => (hf _ _ (by omega)).trans (hO f hf' j hj)) (fun h => ?_) (fun h => absurd (by omega : w < n) h)
    by_cases c : wr O w = O 2 k
    · have c' : wrF (O 0 w) (O 1 w) = O 2 k := c
      rw [if_pos c', if_pos c', ← nI_succ]
      have e1 : cwt O (O 2 k) w + 1 = cwt O (O 2 k) (w + 1) := by rw [cwt, if_pos c]
      have e2 : w = lw O (O 2 k) (w + 1) := by rw [lw, if_pos c]
      rw [e1]
      refine ih (w + 1) _ (by omega) ?_ ?_ ?_ ?_
      · intro o j h9
        rw [stM_n (by omega), stM_n (by omega), stM_n (by omega)]
        exact hf o j h9
      · rw [stM_n (by omega), stM_n (by omega), stM_s]
        rw [show loo O (O 2 k) (w + 1) = bI (decide (1 < cwt O (O 2 k) (w + 1)) || !stp O (lw O (O 2 k) (w + 1))) from if_neg (by omega), ← e2]
        by_cases q : 1 < cwt O (O 2 k) (w + 1)
        · have q' : (1 : Int32) < nI (cwt O (O 2 k) (w + 1)) := (nI_ltI (a := 1) (by omega) (by omega)).mpr q
          rw [if_pos q', decide_eq_true q]
          rfl
        · have q' : ¬ (1 : Int32) < nI (cwt O (O 2 k) (w + 1)) := fun z => q ((nI_ltI (a := 1) (by omega) (by omega)).mp z)
          rw [if_neg q', decide_eq_false q]
          show bI (if stp O w = true then false else true) = bI (false || !stp O w)
          cases stp O w <;> rfl
      · rw [stM_s, h2, sw, if_pos c]
      · rw [stM_n (by omega), stM_s]
        rw [show amo O (O 2 k) (w + 1) = O 4 (lw O (O 2 k) (w + 1)) from if_neg (by omega), ← e2]
    · have c' : ¬ wrF (O 0 w) (O 1 w) = O 2 k := c
      rw [if_neg c', if_neg c']
      have e1 : cwt O (O 2 k) w = cwt O (O 2 k) (w + 1) := by rw [cwt, if_neg c]
      have e2 : lw O (O 2 k) w = lw O (O 2 k) (w + 1) := by rw [lw, if_neg c]
      unfold loo at h1
      unfold amo at h3
      rw [e1, e2] at h1 h3
      rw [e1]
      refine ih (w + 1) M (by omega) hf h1 ?_ h3
      rw [h2, sw, if_neg c]
theorem f24 (hκ : Rd κ) {b n k : Nat} {O : Op} (hb : isBl b) (hk : k < n) (hn : n ≤ 10) (hc : M b 4 = nI n) (hO : ∀ f, f < 6 → ∀ j, j < n → M (b + 1 + f) j = O f j)
    (K : ∀ M', fr24 k M M' → M' 119 k = loo O (O 2 k) n → M' 120 k = sw O (O 2 k) k n → M' 121 k = amo O (O 2 k) n → Q (.inl none, M', κ)) :
    RT 24 (0, entL 24 [.ref 113, .ref b, .int (nI k)], [], M, κ) Q := by
  refine S24_0 (w := 0) hκ hb hk hn (by omega) hc hO ?_
  refine l24 (O := O) (M0 := M) hκ hb hk hn hc hO K n 0 _ (by omega) ?_ ?_ ?_ ?_
  · intro o j h9
    rw [stM_n (by omega), stM_n (by omega), stM_n (by omega)]
  · rw [stM_n (by omega), stM_n (by omega), stM_s]
    rfl
  · rw [stM_n (by omega), stM_s]
    rfl
  · rw [stM_s]
    rfl
end P_21_graph1
