/-! EDGES, the model -/
section P_25_edges
variable {Q : Ou → Prop} {M M0 : Mem} {κ : Kp}
def Ook (O : Op) (n : Nat) : Prop := ∀ k, k < n → (0 ≤ (O 0 k).toInt ∧ (O 0 k).toInt ≤ 9) ∧ (0 ≤ (O 1 k).toInt ∧ (O 1 k).toInt ≤ 11) ∧ (0 ≤ (O 2 k).toInt ∧ (O 2 k).toInt ≤ 11) ∧ (0 ≤ (O 3 k).toInt ∧ (O 3 k).toInt ≤ 11) ∧ (-12 ≤ (O 5 k).toInt ∧ (O 5 k).toInt ≤ 12)
theorem eI {a b : Int32} : a = b ↔ a.toInt = b.toInt := Int32.toInt_inj.symm
theorem ltI {a b : Int32} : a < b ↔ a.toInt < b.toInt := Int32.lt_iff_toInt_lt
theorem leI {a b : Int32} : a ≤ b ↔ a.toInt ≤ b.toInt := Int32.le_iff_toInt_le
theorem c0 : (0 : Int32).toInt = 0 := by decide
theorem c2' : (2 : Int32).toInt = 2 := by decide
theorem c3' : (3 : Int32).toInt = 3 := by decide
theorem c4' : (4 : Int32).toInt = 4 := by decide
theorem c5' : (5 : Int32).toInt = 5 := by decide
theorem c6' : (6 : Int32).toInt = 6 := by decide
theorem c7' : (7 : Int32).toInt = 7 := by decide
theorem c8' : (8 : Int32).toInt = 8 := by decide
theorem c9' : (9 : Int32).toInt = 9 := by decide
theorem cm1 : (-1 : Int32).toInt = -1 := by decide
theorem cNV : (-100000 : Int32).toInt = -100000 := by decide
theorem cNE : (-1000000 : Int32).toInt = -1000000 := by decide
theorem ab_toInt {g : Int32} (h : -1000 ≤ g.toInt ∧ g.toInt ≤ 1000) : (ab g).toInt = if 0 ≤ g.toInt then g.toInt else - g.toInt := by
  unfold ab
  by_cases q : 0 ≤ g
  · rw [if_pos q, if_pos (by rw [leI, c0] at q; exact q)]
  · rw [if_neg q, if_neg (by rw [leI, c0] at q; exact q), l_sub (by rw [c0]; omega) (by omega), c0]
    omega
theorem rA {c : Int32} : (c = 2 ∨ c = 3 ∨ c = 4 ∨ c = 5 ∨ c = 6 ∨ c = 8) ↔ ((¬ c < 2 ∧ ¬ 6 < c) ∨ c = 8) := by
  rw [eI (b := 2), eI (b := 3), eI (b := 4), eI (b := 5), eI (b := 6), eI (b := 8), ltI (b := 2), ltI (a := 6), c2', c3', c4', c5', c6', c8']
  generalize c.toInt = z
  omega
theorem rB {g : Int32} {v : Nat} (hg : -12 ≤ g.toInt ∧ g.toInt ≤ 12) (hv : v < 12) : ab g - 1 = nI v ↔ (g = 1 + nI v ∨ g = -1 - nI v) := by
  have tv : (nI v).toInt = v := nI_toInt (Nat.lt_trans hv (by decide))
  have e1 : (1 + nI v : Int32).toInt = 1 + v := by rw [l_add (by rw [t1]; decide) (by rw [tv]; omega), t1, tv]
  have e2 : (-1 - nI v : Int32).toInt = -1 - v := by rw [l_sub (by rw [cm1]; decide) (by rw [tv]; omega), cm1, tv]
  have ea := ab_toInt (g := g) (by omega)
  have e3 : (ab g - 1).toInt = (ab g).toInt - 1 := by
    rw [l_sub (by rw [ea]; split <;> omega) (by rw [t1]; decide), t1]
  rw [eI, eI (a := g) (b := 1 + nI v), eI (a := g) (b := -1 - nI v), e1, e2, e3, ea, tv]
  clear e1 e2 e3 ea tv
  generalize g.toInt = z at hg ⊢
  split <;> omega
theorem rdM_rd {O : Op} {n k v : Nat} (hO : Ook O n) (hk : k < n) (hv : v < 12) : rdM (O 0 k) (O 2 k) (O 3 k) (O 5 k) (nI v) = rd O k (nI v) := by
  have h5 := (hO k hk).2.2.2.2
  have C : ¬ nI v = -1 := nI_m1 (Nat.lt_trans hv (by decide))
  apply decide_eq_decide.mpr
  rw [rA, ← rB h5 hv]
  exact ⟨fun h => ⟨C, h⟩, fun h => h.2⟩
theorem wr_rng {O : Op} {n k : Nat} (hO : Ook O n) (hk : k < n) : -1 ≤ (wr O k).toInt ∧ (wr O k).toInt ≤ 11 := by
  obtain ⟨h0, h1, h2, h3, h5⟩ := hO k hk
  unfold wr wrF
  split
  · omega
  · rw [cm1]
    omega
/-- three edges of a pair -/
def u3 (s X1 X2 X3 : Int32) (p1 p2 p3 : Prop) [Decidable p1] [Decidable p2] [Decidable p3] : Int32 := if p3 then mx (if p2 then mx (if p1 then mx s X1 else s) X2 else (if p1 then mx s X1 else s)) X3 else (if p2 then mx (if p1 then mx s X1 else s) X2 else (if p1 then mx s X1 else s))
theorem u3_up {s X1 X2 X3 : Int32} {p1 p2 p3 : Prop} [Decidable p1] [Decidable p2] [Decidable p3] : s.toInt ≤ (u3 s X1 X2 X3 p1 p2 p3).toInt ∧ (p1 → X1.toInt ≤ (u3 s X1 X2 X3 p1 p2 p3).toInt) ∧ (p2 → X2.toInt ≤ (u3 s X1 X2 X3 p1 p2 p3).toInt) ∧ (p3 → X3.toInt ≤ (u3 s X1 X2 X3 p1 p2 p3).toInt) := by
  unfold u3
  by_cases h1 : p1 <;> by_cases h2 : p2 <;> by_cases h3 : p3 <;> simp only [h1, h2, h3, if_true, if_false, mx_toInt, true_implies, false_implies, and_true, true_and] <;> omega
theorem u3_lo {s X1 X2 X3 m : Int32} {p1 p2 p3 : Prop} [Decidable p1] [Decidable p2] [Decidable p3] (h0 : s.toInt ≤ m.toInt) (h1 : p1 → X1.toInt ≤ m.toInt) (h2 : p2 → X2.toInt ≤ m.toInt) (h3 : p3 → X3.toInt ≤ m.toInt) : (u3 s X1 X2 X3 p1 p2 p3).toInt ≤ m.toInt := by
  unfold u3
  by_cases q1 : p1 <;> by_cases q2 : p2 <;> by_cases q3 : p3 <;> simp only [q1, q2, q3, if_true, if_false, mx_toInt, true_implies] at h1 h2 h3 ⊢ <;> omega
def J3 (T X1 X2 X3 : Int32) (p1 p2 p3 : Prop) (wi wj : Int) (v1 v2 v3 : Nat) (mo : Int32) : Prop := mo.toInt ≤ T.toInt ∧ (-100000 : Int32).toInt ≤ mo.toInt ∧ (p1 → wi < v1 → X1.toInt ≤ mo.toInt) ∧ (p2 → wj < v2 → X2.toInt ≤ mo.toInt) ∧ (p3 → wi < v3 → X3.toInt ≤ mo.toInt)
theorem i_122_0 : ins 122 0 = some (.ldc 222, 2, 222, 0, 0, (-100000)) := rfl
theorem i_122_2 : ins 122 2 = some (.istore_n 3, 3, 3, 0, 0, 0) := rfl
theorem i_122_3 : ins 122 3 = some (.iconst 0, 4, 0, 0, 0, 0) := rfl
theorem i_122_4 : ins 122 4 = some (.istore 4, 6, 4, 0, 0, 0) := rfl
theorem i_122_6 : ins 122 6 = some (.iload 4, 8, 4, 0, 0, 0) := rfl
theorem i_122_8 : ins 122 8 = some (.bipush 12, 10, 0, 0, 0, 12) := rfl
theorem i_122_10 : ins 122 10 = some (.if_icmp .ge 112, 13, 122, 0, 0, 0) := rfl
theorem i_122_13 : ins 122 13 = some (.aload_n 0, 14, 0, 0, 0, 0) := rfl
theorem i_122_14 : ins 122 14 = some (.iload_n 1, 15, 1, 0, 0, 0) := rfl
theorem i_122_15 : ins 122 15 = some (.iload 4, 17, 4, 0, 0, 0) := rfl
theorem i_122_17 : ins 122 17 = some (.invokevirtual 223, 20, 117, 0, 3, 0) := rfl
theorem i_122_20 : ins 122 20 = some (.ifCond .eq 24, 23, 44, 0, 0, 0) := rfl
theorem i_122_23 : ins 122 23 = some (.aload_n 0, 24, 0, 0, 0, 0) := rfl
theorem i_122_24 : ins 122 24 = some (.iload_n 2, 25, 2, 0, 0, 0) := rfl
theorem i_122_25 : ins 122 25 = some (.iload 4, 27, 4, 0, 0, 0) := rfl
theorem i_122_27 : ins 122 27 = some (.invokevirtual 226, 30, 118, 0, 3, 0) := rfl
theorem i_122_30 : ins 122 30 = some (.ifCond .eq 14, 33, 44, 0, 0, 0) := rfl
theorem i_122_33 : ins 122 33 = some (.aload_n 0, 34, 0, 0, 0, 0) := rfl
theorem i_122_34 : ins 122 34 = some (.iload_n 3, 35, 3, 0, 0, 0) := rfl
theorem i_122_35 : ins 122 35 = some (.aload_n 0, 36, 0, 0, 0, 0) := rfl
theorem i_122_36 : ins 122 36 = some (.iload_n 1, 37, 1, 0, 0, 0) := rfl
theorem i_122_37 : ins 122 37 = some (.invokevirtual 229, 40, 115, 0, 2, 0) := rfl
theorem i_122_40 : ins 122 40 = some (.invokevirtual 233, 43, 121, 0, 3, 0) := rfl
theorem i_122_43 : ins 122 43 = some (.istore_n 3, 44, 3, 0, 0, 0) := rfl
theorem i_122_44 : ins 122 44 = some (.aload_n 0, 45, 0, 0, 0, 0) := rfl
theorem i_122_45 : ins 122 45 = some (.iload_n 1, 46, 1, 0, 0, 0) := rfl
theorem i_122_46 : ins 122 46 = some (.iload 4, 48, 4, 0, 0, 0) := rfl
theorem i_122_48 : ins 122 48 = some (.invokevirtual 226, 51, 118, 0, 3, 0) := rfl
theorem i_122_51 : ins 122 51 = some (.ifCond .eq 26, 54, 77, 0, 0, 0) := rfl
theorem i_122_54 : ins 122 54 = some (.aload_n 0, 55, 0, 0, 0, 0) := rfl
theorem i_122_55 : ins 122 55 = some (.iload_n 2, 56, 2, 0, 0, 0) := rfl
theorem i_122_56 : ins 122 56 = some (.iload 4, 58, 4, 0, 0, 0) := rfl
theorem i_122_58 : ins 122 58 = some (.invokevirtual 223, 61, 117, 0, 3, 0) := rfl
theorem i_122_61 : ins 122 61 = some (.ifCond .eq 16, 64, 77, 0, 0, 0) := rfl
theorem i_122_64 : ins 122 64 = some (.aload_n 0, 65, 0, 0, 0, 0) := rfl
theorem i_122_65 : ins 122 65 = some (.iload_n 3, 66, 3, 0, 0, 0) := rfl
theorem i_122_66 : ins 122 66 = some (.iconst 1, 67, 0, 0, 0, 1) := rfl
theorem i_122_67 : ins 122 67 = some (.aload_n 0, 68, 0, 0, 0, 0) := rfl
theorem i_122_68 : ins 122 68 = some (.iload_n 2, 69, 2, 0, 0, 0) := rfl
theorem i_122_69 : ins 122 69 = some (.invokevirtual 229, 72, 115, 0, 2, 0) := rfl
theorem i_122_72 : ins 122 72 = some (.isub, 73, 0, 0, 0, 0) := rfl
theorem i_122_73 : ins 122 73 = some (.invokevirtual 233, 76, 121, 0, 3, 0) := rfl
theorem i_122_76 : ins 122 76 = some (.istore_n 3, 77, 3, 0, 0, 0) := rfl
theorem i_122_77 : ins 122 77 = some (.aload_n 0, 78, 0, 0, 0, 0) := rfl
theorem i_122_78 : ins 122 78 = some (.iload_n 1, 79, 1, 0, 0, 0) := rfl
theorem i_122_79 : ins 122 79 = some (.iload 4, 81, 4, 0, 0, 0) := rfl
theorem i_122_81 : ins 122 81 = some (.invokevirtual 223, 84, 117, 0, 3, 0) := rfl
theorem i_122_84 : ins 122 84 = some (.ifCond .eq 32, 87, 116, 0, 0, 0) := rfl
theorem i_122_87 : ins 122 87 = some (.aload_n 0, 88, 0, 0, 0, 0) := rfl
theorem i_122_88 : ins 122 88 = some (.iload_n 2, 89, 2, 0, 0, 0) := rfl
theorem i_122_89 : ins 122 89 = some (.iload 4, 91, 4, 0, 0, 0) := rfl
theorem i_122_91 : ins 122 91 = some (.invokevirtual 223, 94, 117, 0, 3, 0) := rfl
theorem i_122_94 : ins 122 94 = some (.ifCond .eq 22, 97, 116, 0, 0, 0) := rfl
theorem i_122_97 : ins 122 97 = some (.aload_n 0, 98, 0, 0, 0, 0) := rfl
theorem i_122_98 : ins 122 98 = some (.iload_n 3, 99, 3, 0, 0, 0) := rfl
theorem i_122_99 : ins 122 99 = some (.aload_n 0, 100, 0, 0, 0, 0) := rfl
theorem i_122_100 : ins 122 100 = some (.iload_n 1, 101, 1, 0, 0, 0) := rfl
theorem i_122_101 : ins 122 101 = some (.invokevirtual 229, 104, 115, 0, 2, 0) := rfl
theorem i_122_104 : ins 122 104 = some (.aload_n 0, 105, 0, 0, 0, 0) := rfl
theorem i_122_105 : ins 122 105 = some (.iload_n 2, 106, 2, 0, 0, 0) := rfl
theorem i_122_106 : ins 122 106 = some (.invokevirtual 229, 109, 115, 0, 2, 0) := rfl
theorem i_122_109 : ins 122 109 = some (.isub, 110, 0, 0, 0, 0) := rfl
theorem i_122_110 : ins 122 110 = some (.iconst 1, 111, 0, 0, 0, 1) := rfl
theorem i_122_111 : ins 122 111 = some (.iadd, 112, 0, 0, 0, 0) := rfl
theorem i_122_112 : ins 122 112 = some (.invokevirtual 233, 115, 121, 0, 3, 0) := rfl
theorem i_122_115 : ins 122 115 = some (.istore_n 3, 116, 3, 0, 0, 0) := rfl
theorem i_122_116 : ins 122 116 = some (.iinc 4 1, 119, 4, 0, 0, 1) := rfl
theorem i_122_119 : ins 122 119 = some (.goto (-113), 122, 6, 0, 0, 0) := rfl
theorem i_122_122 : ins 122 122 = some (.aload_n 0, 123, 0, 0, 0, 0) := rfl
theorem i_122_123 : ins 122 123 = some (.iload_n 1, 124, 1, 0, 0, 0) := rfl
theorem i_122_124 : ins 122 124 = some (.iload_n 2, 125, 2, 0, 0, 0) := rfl
theorem i_122_125 : ins 122 125 = some (.invokevirtual 237, 128, 120, 0, 3, 0) := rfl
theorem i_122_128 : ins 122 128 = some (.ifCond .eq 12, 131, 140, 0, 0, 0) := rfl
theorem i_122_131 : ins 122 131 = some (.aload_n 0, 132, 0, 0, 0, 0) := rfl
theorem i_122_132 : ins 122 132 = some (.iload_n 3, 133, 3, 0, 0, 0) := rfl
theorem i_122_133 : ins 122 133 = some (.iconst 1, 134, 0, 0, 0, 1) := rfl
theorem i_122_134 : ins 122 134 = some (.invokevirtual 233, 137, 121, 0, 3, 0) := rfl
theorem i_122_137 : ins 122 137 = some (.goto 4, 140, 141, 0, 0, 0) := rfl
theorem i_122_140 : ins 122 140 = some (.iload_n 3, 141, 3, 0, 0, 0) := rfl
theorem i_122_141 : ins 122 141 = some (.ireturn, 142, 0, 0, 0, 0) := rfl
theorem S122_0 {Q : Ou → Prop} {M : Mem} {κ : Kp} (hκ : Rd κ) {x n i j v : Nat} {O : Op} {pl mu di lo : Int32} (hx : x < 6) (hn : n ≤ 10) (hi : i < n) (hj : j < n) (hv : v ≤ 12) (hpl : M 134 3 = pl) (hmu : M 134 4 = mu) (hdi : M 134 5 = di) (hlo : M 134 6 = lo) (hO : ∀ f, f < 6 → ∀ j, j < n → M (152 + f) (10 * x + j) = O f j) 
    (k1 : RT 122 (6, [.ref 134, .int (nI ((10 * x) + i)), .int (nI ((10 * x) + j)), .int (-100000), .int (nI 0)], [], M, κ) Q)
    : RT 122 (0, [.ref 134, .int (nI ((10 * x) + i)), .int (nI ((10 * x) + j)), UU, UU], [], M, κ) Q := by
  refine w_push i_122_0 rfl ?_
  refine w_store (l1 := [.ref 134, .int (nI ((10 * x) + i)), .int (nI ((10 * x) + j)), .int (-100000), UU]) i_122_2 rfl (Nat.le_of_ble_eq_true rfl) rfl ?_
  refine w_push i_122_3 rfl ?_
  refine w_store (l1 := [.ref 134, .int (nI ((10 * x) + i)), .int (nI ((10 * x) + j)), .int (-100000), .int 0]) i_122_4 rfl (Nat.le_of_ble_eq_true rfl) rfl ?_
  exact (k1)
theorem S122_6 {Q : Ou → Prop} {M : Mem} {κ : Kp} (hκ : Rd κ) {x n i j v : Nat} {O : Op} {pl mu di lo : Int32} (hx : x < 6) (hn : n ≤ 10) (hi : i < n) (hj : j < n) (hv : v ≤ 12) (hpl : M 134 3 = pl) (hmu : M 134 4 = mu) (hdi : M 134 5 = di) (hlo : M 134 6 = lo) (hO : ∀ f, f < 6 → ∀ j, j < n → M (152 + f) (10 * x + j) = O f j) {mo : Int32}
    (k1 : v < 12 → (wsM (O 0 i) (O 1 i) (nI v)) = true → (rdM (O 0 j) (O 2 j) (O 3 j) (O 5 j) (nI v)) = true → RT 122 (44, [.ref 134, .int (nI ((10 * x) + i)), .int (nI ((10 * x) + j)), .int (mx mo (latF pl mu di lo (O 0 i))), .int (nI v)], [], M, κ) Q)
    (k2 : v < 12 → (wsM (O 0 i) (O 1 i) (nI v)) = true → ¬ ((rdM (O 0 j) (O 2 j) (O 3 j) (O 5 j) (nI v)) = true) → RT 122 (44, [.ref 134, .int (nI ((10 * x) + i)), .int (nI ((10 * x) + j)), .int mo, .int (nI v)], [], M, κ) Q)
    (k3 : v < 12 → ¬ ((wsM (O 0 i) (O 1 i) (nI v)) = true) → RT 122 (44, [.ref 134, .int (nI ((10 * x) + i)), .int (nI ((10 * x) + j)), .int mo, .int (nI v)], [], M, κ) Q)
    (k4 : ¬ (v < 12) → Q (.inl (some (.int (if (ordF (O 0 i) (O 0 j)) = true then (mx mo 1) else mo))), M, κ))
    : RT 122 (6, [.ref 134, .int (nI ((10 * x) + i)), .int (nI ((10 * x) + j)), .int mo, .int (nI v)], [], M, κ) Q := by
  refine w_load i_122_6 rfl rfl ?_
  refine w_push i_122_8 rfl ?_
  refine w_if2n (v < 12) i_122_10 (cN_ge (a := v) (b := 12) (by omega) (by omega)) ?_ ?_
  · intro h1
    refine w_load i_122_13 rfl rfl ?_
    refine w_load i_122_14 rfl rfl ?_
    refine w_load i_122_15 rfl rfl ?_
    refine w_callV (i := _) i_122_17 ⟨by decide, by decide, by decide, rfl⟩ hκ (⟨rfl, by decide⟩ : isOb 134 7) (av := [.int (nI ((10 * x) + i)), .int (nI v)]) (rest := []) rfl rfl (Nat.le_of_ble_eq_true rfl) (v := some (.int (bI (wsM (O 0 i) (O 1 i) (nI v))))) (c117 hκ (by omega) (hO 0 (by decide) i (by omega)) (hO 1 (by decide) i (by omega))) ?_
    refine w_if0n ((wsM (O 0 i) (O 1 i) (nI v)) = true) i_122_20 cB_eq ?_ ?_
    · intro h2
      refine w_load i_122_23 rfl rfl ?_
      refine w_load i_122_24 rfl rfl ?_
      refine w_load i_122_25 rfl rfl ?_
      refine w_callV (i := _) i_122_27 ⟨by decide, by decide, by decide, rfl⟩ hκ (⟨rfl, by decide⟩ : isOb 134 7) (av := [.int (nI ((10 * x) + j)), .int (nI v)]) (rest := []) rfl rfl (Nat.le_of_ble_eq_true rfl) (v := some (.int (bI (rdM (O 0 j) (O 2 j) (O 3 j) (O 5 j) (nI v))))) (c118 hκ (by omega) (hO 0 (by decide) j (by omega)) (hO 2 (by decide) j (by omega)) (hO 3 (by decide) j (by omega)) (hO 5 (by decide) j (by omega))) ?_
      refine w_if0n ((rdM (O 0 j) (O 2 j) (O 3 j) (O 5 j) (nI v)) = true) i_122_30 cB_eq ?_ ?_
      · intro h3
        refine w_load i_122_33 rfl rfl ?_
        refine w_load i_122_34 rfl rfl ?_
        refine w_load i_122_35 rfl rfl ?_
        refine w_load i_122_36 rfl rfl ?_
        refine w_callV (i := _) i_122_37 ⟨by decide, by decide, by decide, rfl⟩ hκ (⟨rfl, by decide⟩ : isOb 134 7) (av := [.int (nI ((10 * x) + i))]) (rest := [.int mo, .ref 134]) rfl rfl (Nat.le_of_ble_eq_true rfl) (v := some (.int (latF pl mu di lo (O 0 i)))) (c115 hκ (by omega) (hO 0 (by decide) i (by omega)) (hpl) (hmu) (hdi) (hlo)) ?_
        refine w_callV (i := _) i_122_40 ⟨by decide, by decide, by decide, rfl⟩ hκ (⟨rfl, by decide⟩ : isOb 134 7) (av := [.int mo, .int (latF pl mu di lo (O 0 i))]) (rest := []) rfl rfl (Nat.le_of_ble_eq_true rfl) (v := some (.int (mx mo (latF pl mu di lo (O 0 i))))) (c121 hκ) ?_
        refine w_store (l1 := [.ref 134, .int (nI ((10 * x) + i)), .int (nI ((10 * x) + j)), .int (mx mo (latF pl mu di lo (O 0 i))), .int (nI v)]) i_122_43 rfl (Nat.le_of_ble_eq_true rfl) rfl ?_
        exact (k1 h1 h2 h3)
      · intro h4
        exact (k2 h1 h2 h4)
    · intro h5
      exact (k3 h1 h5)
  · intro h6
    refine w_load i_122_122 rfl rfl ?_
    refine w_load i_122_123 rfl rfl ?_
    refine w_load i_122_124 rfl rfl ?_
    refine w_callV (i := _) i_122_125 ⟨by decide, by decide, by decide, rfl⟩ hκ (⟨rfl, by decide⟩ : isOb 134 7) (av := [.int (nI ((10 * x) + i)), .int (nI ((10 * x) + j))]) (rest := []) rfl rfl (Nat.le_of_ble_eq_true rfl) (v := some (.int (bI (ordF (O 0 i) (O 0 j))))) (c120 hκ (by omega) (by omega) (hO 0 (by decide) i (by omega)) (hO 0 (by decide) j (by omega))) ?_
    have K7 : RT 122 (141, [.ref 134, .int (nI ((10 * x) + i)), .int (nI ((10 * x) + j)), .int mo, .int (nI v)], [.int (if (ordF (O 0 i) (O 0 j)) = true then (mx mo 1) else mo)], M, κ) Q := by
      exact w_iret i_122_141 (.inl rfl) (k4 h6)
    refine w_if0n ((ordF (O 0 i) (O 0 j)) = true) i_122_128 cB_eq ?_ ?_
    · intro h8
      refine w_load i_122_131 rfl rfl ?_
      refine w_load i_122_132 rfl rfl ?_
      refine w_push i_122_133 rfl ?_
      refine w_callV (i := _) i_122_134 ⟨by decide, by decide, by decide, rfl⟩ hκ (⟨rfl, by decide⟩ : isOb 134 7) (av := [.int mo, .int 1]) (rest := []) rfl rfl (Nat.le_of_ble_eq_true rfl) (v := some (.int (mx mo 1))) (c121 hκ) ?_
      refine w_goto i_122_137 ?_
      exact (by first | exact (K7) | (have K9 := K7; simp only [↓if_pos h8] at K9 ⊢; exact (K9)))
    · intro h9
      refine w_load i_122_140 rfl rfl ?_
      exact (by first | exact (K7) | (have K9 := K7; simp only [↓if_neg h9] at K9 ⊢; exact (K9)))
theorem S122_44 {Q : Ou → Prop} {M : Mem} {κ : Kp} (hκ : Rd κ) {x n i j v : Nat} {O : Op} {pl mu di lo : Int32} (hx : x < 6) (hn : n ≤ 10) (hi : i < n) (hj : j < n) (hv : v ≤ 12) (hpl : M 134 3 = pl) (hmu : M 134 4 = mu) (hdi : M 134 5 = di) (hlo : M 134 6 = lo) (hO : ∀ f, f < 6 → ∀ j, j < n → M (152 + f) (10 * x + j) = O f j) {mo : Int32}
    (k1 : (rdM (O 0 i) (O 2 i) (O 3 i) (O 5 i) (nI v)) = true → (wsM (O 0 j) (O 1 j) (nI v)) = true → RT 122 (77, [.ref 134, .int (nI ((10 * x) + i)), .int (nI ((10 * x) + j)), .int (mx mo (1 - (latF pl mu di lo (O 0 j)))), .int (nI v)], [], M, κ) Q)
    (k2 : (rdM (O 0 i) (O 2 i) (O 3 i) (O 5 i) (nI v)) = true → ¬ ((wsM (O 0 j) (O 1 j) (nI v)) = true) → RT 122 (77, [.ref 134, .int (nI ((10 * x) + i)), .int (nI ((10 * x) + j)), .int mo, .int (nI v)], [], M, κ) Q)
    (k3 : ¬ ((rdM (O 0 i) (O 2 i) (O 3 i) (O 5 i) (nI v)) = true) → RT 122 (77, [.ref 134, .int (nI ((10 * x) + i)), .int (nI ((10 * x) + j)), .int mo, .int (nI v)], [], M, κ) Q)
    : RT 122 (44, [.ref 134, .int (nI ((10 * x) + i)), .int (nI ((10 * x) + j)), .int mo, .int (nI v)], [], M, κ) Q := by
  refine w_load i_122_44 rfl rfl ?_
  refine w_load i_122_45 rfl rfl ?_
  refine w_load i_122_46 rfl rfl ?_
  refine w_callV (i := _) i_122_48 ⟨by decide, by decide, by decide, rfl⟩ hκ (⟨rfl, by decide⟩ : isOb 134 7) (av := [.int (nI ((10 * x) + i)), .int (nI v)]) (rest := []) rfl rfl (Nat.le_of_ble_eq_true rfl) (v := some (.int (bI (rdM (O 0 i) (O 2 i) (O 3 i) (O 5 i) (nI v))))) (c118 hκ (by omega) (hO 0 (by decide) i (by omega)) (hO 2 (by decide) i (by omega)) (hO 3 (by decide) i (by omega)) (hO 5 (by decide) i (by omega))) ?_
  refine w_if0n ((rdM (O 0 i) (O 2 i) (O 3 i) (O 5 i) (nI v)) = true) i_122_51 cB_eq ?_ ?_
  · intro h1
    refine w_load i_122_54 rfl rfl ?_
    refine w_load i_122_55 rfl rfl ?_
    refine w_load i_122_56 rfl rfl ?_
    refine w_callV (i := _) i_122_58 ⟨by decide, by decide, by decide, rfl⟩ hκ (⟨rfl, by decide⟩ : isOb 134 7) (av := [.int (nI ((10 * x) + j)), .int (nI v)]) (rest := []) rfl rfl (Nat.le_of_ble_eq_true rfl) (v := some (.int (bI (wsM (O 0 j) (O 1 j) (nI v))))) (c117 hκ (by omega) (hO 0 (by decide) j (by omega)) (hO 1 (by decide) j (by omega))) ?_
    refine w_if0n ((wsM (O 0 j) (O 1 j) (nI v)) = true) i_122_61 cB_eq ?_ ?_
    · intro h2
      refine w_load i_122_64 rfl rfl ?_
      refine w_load i_122_65 rfl rfl ?_
      refine w_push i_122_66 rfl ?_
      refine w_load i_122_67 rfl rfl ?_
      refine w_load i_122_68 rfl rfl ?_
      refine w_callV (i := _) i_122_69 ⟨by decide, by decide, by decide, rfl⟩ hκ (⟨rfl, by decide⟩ : isOb 134 7) (av := [.int (nI ((10 * x) + j))]) (rest := [.int 1, .int mo, .ref 134]) rfl rfl (Nat.le_of_ble_eq_true rfl) (v := some (.int (latF pl mu di lo (O 0 j)))) (c115 hκ (by omega) (hO 0 (by decide) j (by omega)) (hpl) (hmu) (hdi) (hlo)) ?_
      refine w_bin (w := (1 - (latF pl mu di lo (O 0 j)))) i_122_72 rfl rfl ?_
      refine w_callV (i := _) i_122_73 ⟨by decide, by decide, by decide, rfl⟩ hκ (⟨rfl, by decide⟩ : isOb 134 7) (av := [.int mo, .int (1 - (latF pl mu di lo (O 0 j)))]) (rest := []) rfl rfl (Nat.le_of_ble_eq_true rfl) (v := some (.int (mx mo (1 - (latF pl mu di lo (O 0 j)))))) (c121 hκ) ?_
      refine w_store (l1 := [.ref 134, .int (nI ((10 * x) + i)), .int (nI ((10 * x) + j)), .int (mx mo (1 - (latF pl mu di lo (O 0 j)))), .int (nI v)]) i_122_76 rfl (Nat.le_of_ble_eq_true rfl) rfl ?_
      exact (k1 h1 h2)
    · intro h3
      exact (k2 h1 h3)
  · intro h4
    exact (k3 h4)
theorem S122_77 {Q : Ou → Prop} {M : Mem} {κ : Kp} (hκ : Rd κ) {x n i j v : Nat} {O : Op} {pl mu di lo : Int32} (hx : x < 6) (hn : n ≤ 10) (hi : i < n) (hj : j < n) (hv : v ≤ 12) (hpl : M 134 3 = pl) (hmu : M 134 4 = mu) (hdi : M 134 5 = di) (hlo : M 134 6 = lo) (hO : ∀ f, f < 6 → ∀ j, j < n → M (152 + f) (10 * x + j) = O f j) {mo : Int32}
    (k1 : (wsM (O 0 i) (O 1 i) (nI v)) = true → (wsM (O 0 j) (O 1 j) (nI v)) = true → RT 122 (116, [.ref 134, .int (nI ((10 * x) + i)), .int (nI ((10 * x) + j)), .int (mx mo (((latF pl mu di lo (O 0 i)) - (latF pl mu di lo (O 0 j))) + 1)), .int (nI v)], [], M, κ) Q)
    (k2 : (wsM (O 0 i) (O 1 i) (nI v)) = true → ¬ ((wsM (O 0 j) (O 1 j) (nI v)) = true) → RT 122 (116, [.ref 134, .int (nI ((10 * x) + i)), .int (nI ((10 * x) + j)), .int mo, .int (nI v)], [], M, κ) Q)
    (k3 : ¬ ((wsM (O 0 i) (O 1 i) (nI v)) = true) → RT 122 (116, [.ref 134, .int (nI ((10 * x) + i)), .int (nI ((10 * x) + j)), .int mo, .int (nI v)], [], M, κ) Q)
    : RT 122 (77, [.ref 134, .int (nI ((10 * x) + i)), .int (nI ((10 * x) + j)), .int mo, .int (nI v)], [], M, κ) Q := by
  refine w_load i_122_77 rfl rfl ?_
  refine w_load i_122_78 rfl rfl ?_
  refine w_load i_122_79 rfl rfl ?_
  refine w_callV (i := _) i_122_81 ⟨by decide, by decide, by decide, rfl⟩ hκ (⟨rfl, by decide⟩ : isOb 134 7) (av := [.int (nI ((10 * x) + i)), .int (nI v)]) (rest := []) rfl rfl (Nat.le_of_ble_eq_true rfl) (v := some (.int (bI (wsM (O 0 i) (O 1 i) (nI v))))) (c117 hκ (by omega) (hO 0 (by decide) i (by omega)) (hO 1 (by decide) i (by omega))) ?_
  refine w_if0n ((wsM (O 0 i) (O 1 i) (nI v)) = true) i_122_84 cB_eq ?_ ?_
  · intro h1
    refine w_load i_122_87 rfl rfl ?_
    refine w_load i_122_88 rfl rfl ?_
    refine w_load i_122_89 rfl rfl ?_
    refine w_callV (i := _) i_122_91 ⟨by decide, by decide, by decide, rfl⟩ hκ (⟨rfl, by decide⟩ : isOb 134 7) (av := [.int (nI ((10 * x) + j)), .int (nI v)]) (rest := []) rfl rfl (Nat.le_of_ble_eq_true rfl) (v := some (.int (bI (wsM (O 0 j) (O 1 j) (nI v))))) (c117 hκ (by omega) (hO 0 (by decide) j (by omega)) (hO 1 (by decide) j (by omega))) ?_
    refine w_if0n ((wsM (O 0 j) (O 1 j) (nI v)) = true) i_122_94 cB_eq ?_ ?_
    · intro h2
      refine w_load i_122_97 rfl rfl ?_
      refine w_load i_122_98 rfl rfl ?_
      refine w_load i_122_99 rfl rfl ?_
      refine w_load i_122_100 rfl rfl ?_
      refine w_callV (i := _) i_122_101 ⟨by decide, by decide, by decide, rfl⟩ hκ (⟨rfl, by decide⟩ : isOb 134 7) (av := [.int (nI ((10 * x) + i))]) (rest := [.int mo, .ref 134]) rfl rfl (Nat.le_of_ble_eq_true rfl) (v := some (.int (latF pl mu di lo (O 0 i)))) (c115 hκ (by omega) (hO 0 (by decide) i (by omega)) (hpl) (hmu) (hdi) (hlo)) ?_
      refine w_load i_122_104 rfl rfl ?_
      refine w_load i_122_105 rfl rfl ?_
      refine w_callV (i := _) i_122_106 ⟨by decide, by decide, by decide, rfl⟩ hκ (⟨rfl, by decide⟩ : isOb 134 7) (av := [.int (nI ((10 * x) + j))]) (rest := [.int (latF pl mu di lo (O 0 i)), .int mo, .ref 134]) rfl rfl (Nat.le_of_ble_eq_true rfl) (v := some (.int (latF pl mu di lo (O 0 j)))) (c115 hκ (by omega) (hO 0 (by decide) j (by omega)) (hpl) (hmu) (hdi) (hlo)) ?_
      refine w_bin (w := ((latF pl mu di lo (O 0 i)) - (latF pl mu di lo (O 0 j)))) i_122_109 rfl rfl ?_
      refine w_push i_122_110 rfl ?_
      refine w_bin (w := (((latF pl mu di lo (O 0 i)) - (latF pl mu di lo (O 0 j))) + 1)) i_122_111 rfl rfl ?_
      refine w_callV (i := _) i_122_112 ⟨by decide, by decide, by decide, rfl⟩ hκ (⟨rfl, by decide⟩ : isOb 134 7) (av := [.int mo, .int (((latF pl mu di lo (O 0 i)) - (latF pl mu di lo (O 0 j))) + 1)]) (rest := []) rfl rfl (Nat.le_of_ble_eq_true rfl) (v := some (.int (mx mo (((latF pl mu di lo (O 0 i)) - (latF pl mu di lo (O 0 j))) + 1)))) (c121 hκ) ?_
      refine w_store (l1 := [.ref 134, .int (nI ((10 * x) + i)), .int (nI ((10 * x) + j)), .int (mx mo (((latF pl mu di lo (O 0 i)) - (latF pl mu di lo (O 0 j))) + 1)), .int (nI v)]) i_122_115 rfl (Nat.le_of_ble_eq_true rfl) rfl ?_
      exact (k1 h1 h2)
    · intro h3
      exact (k2 h1 h3)
  · intro h4
    exact (k3 h4)
theorem S122_116 {Q : Ou → Prop} {M : Mem} {κ : Kp} (hκ : Rd κ) {x n i j v : Nat} {O : Op} {pl mu di lo : Int32} (hx : x < 6) (hn : n ≤ 10) (hi : i < n) (hj : j < n) (hv : v ≤ 12) (hpl : M 134 3 = pl) (hmu : M 134 4 = mu) (hdi : M 134 5 = di) (hlo : M 134 6 = lo) (hO : ∀ f, f < 6 → ∀ j, j < n → M (152 + f) (10 * x + j) = O f j) {mo : Int32}
    (k1 : RT 122 (6, [.ref 134, .int (nI ((10 * x) + i)), .int (nI ((10 * x) + j)), .int mo, .int (nI (v + 1))], [], M, κ) Q)
    : RT 122 (116, [.ref 134, .int (nI ((10 * x) + i)), .int (nI ((10 * x) + j)), .int mo, .int (nI v)], [], M, κ) Q := by
  refine w_iincN (n := v) (l1 := [.ref 134, .int (nI ((10 * x) + i)), .int (nI ((10 * x) + j)), .int mo, .int (nI (v + 1))]) 1 i_122_116 rfl rfl ?_
  refine w_goto i_122_119 ?_
  exact (k1)
theorem c122 (hκ : Rd κ) {x n i j : Nat} {O : Op} {L : Nat → Int32} {pl mu di lo : Int32} (hx : x < 6) (hn : n ≤ 10) (hi : i < n) (hj : j < n) (hpl : M 134 3 = pl) (hmu : M 134 4 = mu) (hdi : M 134 5 = di) (hlo : M 134 6 = lo) (hO : ∀ f, f < 6 → ∀ j, j < n → M (152 + f) (10 * x + j) = O f j) (hk : Ook O n) (hL : Lok L n) (hl : ∀ k, k < n → latF pl mu di lo (O 0 k) = L k) : Run 122 (0, entL 122 [.ref 134, .int (nI ((10 * x) + i)), .int (nI ((10 * x) + j))], [], M, κ) (.inl (some (.int (enc (-100000) (usO L O i j)))), M, κ) := by
  have hT : enc (-100000) (usO L O i j) = if ordF (O 0 i) (O 0 j) = true then mx (u3 (-100000) (L i) (1 - L j) (L i - L j + 1) (rd O j (wr O i) = true) (rd O i (wr O j) = true) (¬ wr O i = -1 ∧ wr O i = wr O j)) 1 else u3 (-100000) (L i) (1 - L j) (L i - L j + 1) (rd O j (wr O i) = true) (rd O i (wr O j) = true) (¬ wr O i = -1 ∧ wr O i = wr O j) := us_enc (by decide) hL hi hj
  have hu := u3_up (s := -100000) (X1 := L i) (X2 := 1 - L j) (X3 := L i - L j + 1) (p1 := rd O j (wr O i) = true) (p2 := rd O i (wr O j) = true) (p3 := ¬ wr O i = -1 ∧ wr O i = wr O j)
  have hlo' := fun m => u3_lo (m := m) (s := -100000) (X1 := L i) (X2 := 1 - L j) (X3 := L i - L j + 1) (p1 := rd O j (wr O i) = true) (p2 := rd O i (wr O j) = true) (p3 := ¬ wr O i = -1 ∧ wr O i = wr O j)
  generalize u3 (-100000) (L i) (1 - L j) (L i - L j + 1) (rd O j (wr O i) = true) (rd O i (wr O j) = true) (¬ wr O i = -1 ∧ wr O i = wr O j) = T at hT hu hlo'
  have wi := wr_rng hk hi
  have wj := wr_rng hk hj
  have ws : ∀ (y : Nat) (v : Nat), v < 12 → (wsM (O 0 y) (O 1 y) (nI v) = true ↔ wr O y = nI v) := fun y v hv => ws_wr (nI_m1 (by omega))
  have tv : ∀ v : Nat, v < 12 → (nI v).toInt = v := fun v hv => nI_toInt (by omega)
  have B : ∀ d v mo, v + d = 12 → J3 T (L i) (1 - L j) (L i - L j + 1) (rd O j (wr O i) = true) (rd O i (wr O j) = true) (¬ wr O i = -1 ∧ wr O i = wr O j) (wr O i).toInt (wr O j).toInt v v v mo → RT 122 (6, [.ref 134, .int (nI ((10 * x) + i)), .int (nI ((10 * x) + j)), .int mo, .int (nI v)], [], M, κ) (fun o => o = (.inl (some (.int (enc (-100000) (usO L O i j)))), M, κ)) := by
    intro d
    induction d with
    | zero =>
      intro v mo hv h
      have e : v = 12 := by omega
      subst e
      refine S122_6 hκ hx hn hi hj (Nat.le_refl _) hpl hmu hdi hlo hO (fun z => absurd z (by decide)) (fun z => absurd z (by decide)) (fun z => absurd z (by decide)) (fun _ => ?_)
      obtain ⟨h1, h2, h3, h4, h5⟩ := h
      have e2 : mo = T := by
        apply Int32.toInt_inj.mp
        have := hlo' mo h2 (fun p => h3 p (by omega)) (fun p => h4 p (by omega)) (fun p => h5 p (by omega))
        omega
      rw [hT, e2]
    | succ d ih =>
      intro v mo hv h
      have hv12 : v < 12 := by omega
      have C3 : ∀ mo, J3 T (L i) (1 - L j) (L i - L j + 1) (rd O j (wr O i) = true) (rd O i (wr O j) = true) (¬ wr O i = -1 ∧ wr O i = wr O j) (wr O i).toInt (wr O j).toInt (v + 1) (v + 1) (v + 1) mo → RT 122 (116, [.ref 134, .int (nI ((10 * x) + i)), .int (nI ((10 * x) + j)), .int mo, .int (nI v)], [], M, κ) (fun o => o = (.inl (some (.int (enc (-100000) (usO L O i j)))), M, κ)) := fun mo h => S122_116 hκ hx hn hi hj (by omega) hpl hmu hdi hlo hO (ih (v + 1) mo (by omega) h)
      have C2 : ∀ mo, J3 T (L i) (1 - L j) (L i - L j + 1) (rd O j (wr O i) = true) (rd O i (wr O j) = true) (¬ wr O i = -1 ∧ wr O i = wr O j) (wr O i).toInt (wr O j).toInt (v + 1) (v + 1) v mo → RT 122 (77, [.ref 134, .int (nI ((10 * x) + i)), .int (nI ((10 * x) + j)), .int mo, .int (nI v)], [], M, κ) (fun o => o = (.inl (some (.int (enc (-100000) (usO L O i j)))), M, κ)) := by
        intro mo h
        obtain ⟨h1, h2, h3, h4, h5⟩ := h
        refine S122_77 hκ hx hn hi hj (by omega) hpl hmu hdi hlo hO (fun a b => ?_) (fun a b => C3 _ ⟨h1, h2, h3, h4, fun p q => ?_⟩) (fun a => C3 _ ⟨h1, h2, h3, h4, fun p q => ?_⟩)
        · rw [hl i hi, hl j hj]
          have a' := (ws i v hv12).mp a
          have b' := (ws j v hv12).mp b
          have c3 : ¬ wr O i = -1 ∧ wr O i = wr O j := ⟨by rw [a']; exact nI_m1 (by omega), by rw [a', b']⟩
          have := hu.2.2.2 c3
          refine C3 _ ⟨?_, ?_, fun p q => ?_, fun p q => ?_, fun p q => ?_⟩ <;> rw [mx_toInt]
          · omega
          · omega
          · have := h3 p q; omega
          · have := h4 p q; omega
          · omega
        · have a' := (ws i v hv12).mp a
          exact absurd ((ws j v hv12).mpr (p.2 ▸ a')) b
        · refine h5 p ?_
          have : ¬ (wr O i).toInt = v := fun z => a ((ws i v hv12).mpr (eI.mpr (by rw [tv v hv12]; exact z)))
          omega
      have C1 : ∀ mo, J3 T (L i) (1 - L j) (L i - L j + 1) (rd O j (wr O i) = true) (rd O i (wr O j) = true) (¬ wr O i = -1 ∧ wr O i = wr O j) (wr O i).toInt (wr O j).toInt (v + 1) v v mo → RT 122 (44, [.ref 134, .int (nI ((10 * x) + i)), .int (nI ((10 * x) + j)), .int mo, .int (nI v)], [], M, κ) (fun o => o = (.inl (some (.int (enc (-100000) (usO L O i j)))), M, κ)) := by
        intro mo h
        obtain ⟨h1, h2, h3, h4, h5⟩ := h
        refine S122_44 hκ hx hn hi hj (by omega) hpl hmu hdi hlo hO (fun a b => ?_) (fun a b => C2 _ ⟨h1, h2, h3, fun p q => ?_, h5⟩) (fun a => C2 _ ⟨h1, h2, h3, fun p q => ?_, h5⟩)
        · rw [hl j hj]
          have b' := (ws j v hv12).mp b
          rw [rdM_rd hk hi hv12, ← b'] at a
          have := hu.2.2.1 a
          refine C2 _ ⟨?_, ?_, fun p q => ?_, fun p q => ?_, fun p q => ?_⟩ <;> rw [mx_toInt]
          · omega
          · omega
          · have := h3 p q; omega
          · omega
          · have := h5 p q; omega
        · refine h4 p ?_
          have : ¬ (wr O j).toInt = v := fun z => b ((ws j v hv12).mpr (eI.mpr (by rw [tv v hv12]; exact z)))
          omega
        · refine h4 p ?_
          have : ¬ (wr O j).toInt = v := fun z => by
            have e : wr O j = nI v := eI.mpr (by rw [tv v hv12]; exact z)
            rw [rdM_rd hk hi hv12, ← e] at a
            exact a p
          omega
      obtain ⟨h1, h2, h3, h4, h5⟩ := h
      refine S122_6 hκ hx hn hi hj (by omega) hpl hmu hdi hlo hO (fun _ a b => ?_) (fun _ a b => C1 _ ⟨h1, h2, fun p q => ?_, h4, h5⟩) (fun _ a => C1 _ ⟨h1, h2, fun p q => ?_, h4, h5⟩) (fun z => absurd hv12 z)
      · rw [hl i hi]
        have a' := (ws i v hv12).mp a
        rw [rdM_rd hk hj hv12, ← a'] at b
        have := hu.2.1 b
        refine C1 _ ⟨?_, ?_, fun p q => ?_, fun p q => ?_, fun p q => ?_⟩ <;> rw [mx_toInt]
        · omega
        · omega
        · omega
        · have := h4 p q; omega
        · have := h5 p q; omega
      · refine h3 p ?_
        have : ¬ (wr O i).toInt = v := fun z => by
          have e : wr O i = nI v := eI.mpr (by rw [tv v hv12]; exact z)
          rw [rdM_rd hk hj hv12, ← e] at b
          exact b p
        omega
      · refine h3 p ?_
        have : ¬ (wr O i).toInt = v := fun z => a ((ws i v hv12).mpr (eI.mpr (by rw [tv v hv12]; exact z)))
        omega
  refine RT_run (S122_0 (v := 0) hκ hx hn hi hj (by decide) hpl hmu hdi hlo hO ?_)
  refine B 12 0 _ rfl ⟨?_, Int.le_refl _, fun p q => ?_, fun p q => ?_, fun p q => ?_⟩
  · exact hu.1
  · exfalso
    have e : ¬ (wr O i).toInt = -1 := fun z => by
      have e : wr O i = -1 := eI.mpr (by rw [cm1]; exact z)
      unfold rd rdF at p
      exact (of_decide_eq_true p).1 e
    omega
  · exfalso
    have e : ¬ (wr O j).toInt = -1 := fun z => by
      have e : wr O j = -1 := eI.mpr (by rw [cm1]; exact z)
      unfold rd rdF at p
      exact (of_decide_eq_true p).1 e
    omega
  · exfalso
    have e : ¬ (wr O i).toInt = -1 := fun z => p.1 (eI.mpr (by rw [cm1]; exact z))
    omega
end P_25_edges
