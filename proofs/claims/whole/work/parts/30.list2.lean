/-! LISTS: the class schedules -/
section P_30_list2
theorem i_30_0 : ins 30 0 = some (.aload_n 0, 1, 0, 0, 0, 0) := rfl
theorem i_30_1 : ins 30 1 = some (.iconst 0, 2, 0, 0, 0, 0) := rfl
theorem i_30_2 : ins 30 2 = some (.iconst 0, 3, 0, 0, 0, 0) := rfl
theorem i_30_3 : ins 30 3 = some (.invokevirtual 9, 6, 25, 0, 3, 0) := rfl
theorem S30_0 {Q : Ou → Prop} {M : Mem} {κ : Kp} (hκ : Rd κ) {p : Nat} (hp : isPl p) 
    (k1 : RT 25 (0, entL 25 [.ref 113, .int 0, .int 0], [], M, κ) (fun o => ∃ v M1 κ1, o = (.inl v, M1, κ1) ∧ RT 30 (6, [.ref 113, .ref p, UU, UU], v.toList ++ [], M1, κ1) Q))
    : RT 30 (0, [.ref 113, .ref p, UU, UU], [], M, κ) Q := by
  refine w_load i_30_0 rfl rfl ?_
  refine w_push i_30_1 rfl ?_
  refine w_push i_30_2 rfl ?_
  exact w_callVI (i := _) i_30_3 ⟨by decide, by decide, by decide, rfl⟩ hκ (⟨rfl, by decide⟩ : isOb 113 1) (av := [.int 0, .int 0]) (rest := []) rfl rfl (Nat.le_of_ble_eq_true rfl) (k1)
theorem i_30_13 : ins 30 13 = some (.iload_n 2, 14, 2, 0, 0, 0) := rfl
theorem i_30_14 : ins 30 14 = some (.ifCond .lt 37, 17, 51, 0, 0, 0) := rfl
theorem i_30_17 : ins 30 17 = some (.aload_n 1, 18, 1, 0, 0, 0) := rfl
theorem i_30_18 : ins 30 18 = some (.getfield 19, 21, 5, 5, 0, 0) := rfl
theorem i_30_21 : ins 30 21 = some (.iload_n 2, 22, 2, 0, 0, 0) := rfl
theorem i_30_22 : ins 30 22 = some (.aload_n 0, 23, 0, 0, 0, 0) := rfl
theorem i_30_23 : ins 30 23 = some (.iload_n 2, 24, 2, 0, 0, 0) := rfl
theorem i_30_24 : ins 30 24 = some (.aload_n 1, 25, 1, 0, 0, 0) := rfl
theorem i_30_25 : ins 30 25 = some (.getfield 19, 28, 5, 5, 0, 0) := rfl
theorem i_30_28 : ins 30 28 = some (.aload_n 0, 29, 0, 0, 0, 0) := rfl
theorem i_30_29 : ins 30 29 = some (.getfield 25, 32, 1, 5, 0, 0) := rfl
theorem i_30_32 : ins 30 32 = some (.iload_n 2, 33, 2, 0, 0, 0) := rfl
theorem i_30_33 : ins 30 33 = some (.iaload, 34, 0, 0, 0, 0) := rfl
theorem i_30_34 : ins 30 34 = some (.invokevirtual 28, 37, 27, 0, 4, 0) := rfl
theorem i_30_37 : ins 30 37 = some (.iastore, 38, 0, 0, 0, 0) := rfl
theorem i_30_38 : ins 30 38 = some (.aload_n 1, 39, 1, 0, 0, 0) := rfl
theorem i_30_39 : ins 30 39 = some (.getfield 32, 42, 5, 6, 0, 0) := rfl
theorem i_30_42 : ins 30 42 = some (.iload_n 2, 43, 2, 0, 0, 0) := rfl
theorem i_30_43 : ins 30 43 = some (.iconst (-1), 44, 0, 0, 0, (-1)) := rfl
theorem i_30_44 : ins 30 44 = some (.iastore, 45, 0, 0, 0, 0) := rfl
theorem i_30_45 : ins 30 45 = some (.iinc 2 (-1), 48, 2, 0, 0, (-1)) := rfl
theorem i_30_48 : ins 30 48 = some (.goto (-35), 51, 13, 0, 0, 0) := rfl
theorem i_30_51 : ins 30 51 = some (.aload_n 0, 52, 0, 0, 0, 0) := rfl
theorem i_30_52 : ins 30 52 = some (.getfield 15, 55, 1, 0, 0, 0) := rfl
theorem i_30_55 : ins 30 55 = some (.istore_n 2, 56, 2, 0, 0, 0) := rfl
theorem i_30_56 : ins 30 56 = some (.iconst 0, 57, 0, 0, 0, 0) := rfl
theorem i_30_57 : ins 30 57 = some (.istore_n 3, 58, 3, 0, 0, 0) := rfl
theorem S30_13 {Q : Ou → Prop} {M : Mem} {κ : Kp} (hκ : Rd κ) {p n k : Nat} (hp : isPl p) (hk : k < n) (hn : n ≤ 10) (hc : M 113 0 = nI n)  {r_34 : Int32}
    (o1 : ¬ (k < 0) → Run 27 (0, entL 27 [.ref 113, .int (nI k), .ref (p + 1), .int (M 115 k)], [], M, κ) (.inl (some (.int r_34)), M, κ))
    (k1 : k < 0 → RT 30 (58, [.ref 113, .ref p, .int (nI n), .int (nI 0)], [], M, κ) Q)
    (k2 : ¬ (k < 0) → RT 30 (13, [.ref 113, .ref p, .int ((nI k) + (-1)), UU], [], (stM (stM M (p + 1) k r_34) (p + 2) k (-1)), κ) Q)
    : RT 30 (13, [.ref 113, .ref p, .int (nI k), UU], [], M, κ) Q := by
  refine w_load i_30_13 rfl rfl ?_
  refine w_if0 (k < 0) i_30_14 (cZ_lt (a := k) (by omega) (by decide)) ?_ ?_
  · intro h1
    refine w_load i_30_51 rfl rfl ?_
    refine w_getI (v := (nI n)) i_30_52 hκ (⟨rfl, by decide⟩ : isOb 113 1) rfl (hc) ?_
    refine w_store (l1 := [.ref 113, .ref p, .int (nI n), UU]) i_30_55 rfl (Nat.le_of_ble_eq_true rfl) rfl ?_
    refine w_push i_30_56 rfl ?_
    refine w_store (l1 := [.ref 113, .ref p, .int (nI n), .int 0]) i_30_57 rfl (Nat.le_of_ble_eq_true rfl) rfl ?_
    exact (k1 h1)
  · intro h2
    refine w_load i_30_17 rfl rfl ?_
    refine w_getR (p + 1) i_30_18 hκ (pl_ob hp) rfl rfl ?_
    refine w_load i_30_21 rfl rfl ?_
    refine w_load i_30_22 rfl rfl ?_
    refine w_load i_30_23 rfl rfl ?_
    refine w_load i_30_24 rfl rfl ?_
    refine w_getR (p + 1) i_30_25 hκ (pl_ob hp) rfl rfl ?_
    refine w_load i_30_28 rfl rfl ?_
    refine w_getR 115 i_30_29 hκ (⟨rfl, by decide⟩ : isOb 113 1) rfl rfl ?_
    refine w_load i_30_32 rfl rfl ?_
    refine w_ialdN (e := k) (v := (M 115 k)) i_30_33 hκ (⟨rfl, rfl, by decide⟩ : isAr 115 10) (by omega) (by decide) (rfl) ?_
    refine w_callV (i := _) i_30_34 ⟨by decide, by decide, by decide, rfl⟩ hκ (⟨rfl, by decide⟩ : isOb 113 1) (av := [.int (nI k), .ref (p + 1), .int (M 115 k)]) (rest := [.int (nI k), .ref (p + 1)]) rfl rfl (Nat.le_of_ble_eq_true rfl) (v := some (.int r_34)) (o1 h2) ?_
    refine w_iastN (e := k) i_30_37 hκ (pl_ar hp 1 (by decide)) (by omega) (by decide) ?_
    refine w_load i_30_38 rfl rfl ?_
    refine w_getR (p + 2) i_30_39 hκ (pl_ob hp) rfl rfl ?_
    refine w_load i_30_42 rfl rfl ?_
    refine w_push i_30_43 rfl ?_
    refine w_iastN (e := k) i_30_44 hκ (pl_ar hp 2 (by decide)) (by omega) (by decide) ?_
    refine w_iinc (l1 := [.ref 113, .ref p, .int ((nI k) + (-1)), UU]) i_30_45 rfl rfl ?_
    refine w_goto i_30_48 ?_
    exact (k2 h2)
theorem i_30_6 : ins 30 6 = some (.aload_n 0, 7, 0, 0, 0, 0) := rfl
theorem i_30_7 : ins 30 7 = some (.getfield 15, 10, 1, 0, 0, 0) := rfl
theorem i_30_10 : ins 30 10 = some (.iconst 1, 11, 0, 0, 0, 1) := rfl
theorem i_30_11 : ins 30 11 = some (.isub, 12, 0, 0, 0, 0) := rfl
theorem i_30_12 : ins 30 12 = some (.istore_n 2, 13, 2, 0, 0, 0) := rfl
theorem Sm30_13 {Q : Ou → Prop} {M : Mem} {κ : Kp} (hκ : Rd κ) {p n : Nat} (hp : isPl p) (hn : n ≤ 10) (hc : M 113 0 = nI n) {k : Int32} {r_34 : Int32}
    (o1 : ¬ (k < 0) → vp_in k 10)
    (o2 : ¬ (k < 0) → Run 27 (0, entL 27 [.ref 113, .int k, .ref (p + 1), .int (M 115 k.toNatClampNeg)], [], M, κ) (.inl (some (.int r_34)), M, κ))
    (k1 : k < 0 → RT 30 (58, [.ref 113, .ref p, .int (nI n), .int (nI 0)], [], M, κ) Q)
    (k2 : ¬ (k < 0) → RT 30 (13, [.ref 113, .ref p, .int (k + (-1)), UU], [], (stM (stM M (p + 1) k.toNatClampNeg r_34) (p + 2) k.toNatClampNeg (-1)), κ) Q)
    : RT 30 (13, [.ref 113, .ref p, .int k, UU], [], M, κ) Q := by
  refine w_load i_30_13 rfl rfl ?_
  refine w_if0 (k < 0) i_30_14 cI0_lt ?_ ?_
  · intro h1
    refine w_load i_30_51 rfl rfl ?_
    refine w_getI (v := (nI n)) i_30_52 hκ (⟨rfl, by decide⟩ : isOb 113 1) rfl (hc) ?_
    refine w_store (l1 := [.ref 113, .ref p, .int (nI n), UU]) i_30_55 rfl (Nat.le_of_ble_eq_true rfl) rfl ?_
    refine w_push i_30_56 rfl ?_
    refine w_store (l1 := [.ref 113, .ref p, .int (nI n), .int 0]) i_30_57 rfl (Nat.le_of_ble_eq_true rfl) rfl ?_
    exact (k1 h1)
  · intro h2
    refine w_load i_30_17 rfl rfl ?_
    refine w_getR (p + 1) i_30_18 hκ (pl_ob hp) rfl rfl ?_
    refine w_load i_30_21 rfl rfl ?_
    refine w_load i_30_22 rfl rfl ?_
    refine w_load i_30_23 rfl rfl ?_
    refine w_load i_30_24 rfl rfl ?_
    refine w_getR (p + 1) i_30_25 hκ (pl_ob hp) rfl rfl ?_
    refine w_load i_30_28 rfl rfl ?_
    refine w_getR 115 i_30_29 hκ (⟨rfl, by decide⟩ : isOb 113 1) rfl rfl ?_
    refine w_load i_30_32 rfl rfl ?_
    refine w_iald (v := (M 115 k.toNatClampNeg)) i_30_33 hκ (⟨rfl, rfl, by decide⟩ : isAr 115 10) (o1 h2) (rfl) ?_
    refine w_callV (i := _) i_30_34 ⟨by decide, by decide, by decide, rfl⟩ hκ (⟨rfl, by decide⟩ : isOb 113 1) (av := [.int k, .ref (p + 1), .int (M 115 k.toNatClampNeg)]) (rest := [.int k, .ref (p + 1)]) rfl rfl (Nat.le_of_ble_eq_true rfl) (v := some (.int r_34)) (o2 h2) ?_
    refine w_iast i_30_37 hκ (pl_ar hp 1 (by decide)) (o1 h2) ?_
    refine w_load i_30_38 rfl rfl ?_
    refine w_getR (p + 2) i_30_39 hκ (pl_ob hp) rfl rfl ?_
    refine w_load i_30_42 rfl rfl ?_
    refine w_push i_30_43 rfl ?_
    refine w_iast i_30_44 hκ (pl_ar hp 2 (by decide)) (o1 h2) ?_
    refine w_iinc (l1 := [.ref 113, .ref p, .int (k + (-1)), UU]) i_30_45 rfl rfl ?_
    refine w_goto i_30_48 ?_
    exact (k2 h2)
theorem Sm30_6 {Q : Ou → Prop} {M : Mem} {κ : Kp} (hκ : Rd κ) {p n : Nat} (hp : isPl p) (hn : n ≤ 10) (hc : M 113 0 = nI n) 
    (k1 : RT 30 (13, [.ref 113, .ref p, .int ((nI n) - 1), UU], [], M, κ) Q)
    : RT 30 (6, [.ref 113, .ref p, UU, UU], [], M, κ) Q := by
  refine w_load i_30_6 rfl rfl ?_
  refine w_getI (v := (nI n)) i_30_7 hκ (⟨rfl, by decide⟩ : isOb 113 1) rfl (hc) ?_
  refine w_push i_30_10 rfl ?_
  refine w_bin (w := ((nI n) - 1)) i_30_11 rfl rfl ?_
  refine w_store (l1 := [.ref 113, .ref p, .int ((nI n) - 1), UU]) i_30_12 rfl (Nat.le_of_ble_eq_true rfl) rfl ?_
  exact (k1)
theorem i_30_58 : ins 30 58 = some (.iload_n 3, 59, 3, 0, 0, 0) := rfl
theorem i_30_59 : ins 30 59 = some (.sipush 1000, 62, 0, 0, 0, 1000) := rfl
theorem i_30_62 : ins 30 62 = some (.if_icmp .ge 22, 65, 84, 0, 0, 0) := rfl
theorem i_30_65 : ins 30 65 = some (.iload_n 2, 66, 2, 0, 0, 0) := rfl
theorem i_30_66 : ins 30 66 = some (.ifCond .le 18, 69, 84, 0, 0, 0) := rfl
theorem i_30_69 : ins 30 69 = some (.iload_n 2, 70, 2, 0, 0, 0) := rfl
theorem i_30_70 : ins 30 70 = some (.aload_n 0, 71, 0, 0, 0, 0) := rfl
theorem i_30_71 : ins 30 71 = some (.aload_n 1, 72, 1, 0, 0, 0) := rfl
theorem i_30_72 : ins 30 72 = some (.iload_n 3, 73, 3, 0, 0, 0) := rfl
theorem i_30_73 : ins 30 73 = some (.invokestatic 35, 76, 31, 1, 3, 0) := rfl
theorem i_30_76 : ins 30 76 = some (.isub, 77, 0, 0, 0, 0) := rfl
theorem i_30_77 : ins 30 77 = some (.istore_n 2, 78, 2, 0, 0, 0) := rfl
theorem i_30_78 : ins 30 78 = some (.iinc 3 1, 81, 3, 0, 0, 1) := rfl
theorem i_30_81 : ins 30 81 = some (.goto (-23), 84, 58, 0, 0, 0) := rfl
theorem i_30_84 : ins 30 84 = some (.aload_n 1, 85, 1, 0, 0, 0) := rfl
theorem i_30_85 : ins 30 85 = some (.aload_n 0, 86, 0, 0, 0, 0) := rfl
theorem i_30_86 : ins 30 86 = some (.aload_n 1, 87, 1, 0, 0, 0) := rfl
theorem i_30_87 : ins 30 87 = some (.getfield 32, 90, 5, 6, 0, 0) := rfl
theorem i_30_90 : ins 30 90 = some (.invokevirtual 41, 93, 29, 0, 2, 0) := rfl
theorem i_30_93 : ins 30 93 = some (.putfield 45, 96, 5, 0, 0, 0) := rfl
theorem i_30_96 : ins 30 96 = some (.return_, 97, 0, 0, 0, 0) := rfl
theorem S30_58 {Q : Ou → Prop} {M : Mem} {κ : Kp} (hκ : Rd κ) {p n : Nat} (hp : isPl p) (hn : n ≤ 10) (hc : M 113 0 = nI n) {le : Int32} {t : Nat} (b_t : t ≤ 100000)
    (k1 : (((t < 1000) ∧ (¬ (0 < le))) ∨ (¬ (t < 1000))) → RT 29 (0, entL 29 [.ref 113, .ref (p + 2)], [], M, κ) (fun o => ∃ v M1 κ1, o = (.inl v, M1, κ1) ∧ RT 30 (93, [.ref 113, .ref p, .int le, .int (nI t)], v.toList ++ [.ref p], M1, κ1) Q))
    (k2 : t < 1000 → 0 < le → RT 31 (0, entL 31 [.ref 113, .ref p, .int (nI t)], [], M, κ) (fun o => ∃ v M1 κ1, o = (.inl v, M1, κ1) ∧ RT 30 (76, [.ref 113, .ref p, .int le, .int (nI t)], v.toList ++ [.int le], M1, κ1) Q))
    : RT 30 (58, [.ref 113, .ref p, .int le, .int (nI t)], [], M, κ) Q := by
  refine w_load i_30_58 rfl rfl ?_
  refine w_push i_30_59 rfl ?_
  have K1 : (((t < 1000) ∧ (¬ (0 < le))) ∨ (¬ (t < 1000))) → RT 30 (84, [.ref 113, .ref p, .int le, .int (nI t)], [], M, κ) Q := by
    intro h2
    refine w_load i_30_84 rfl rfl ?_
    refine w_load i_30_85 rfl rfl ?_
    refine w_load i_30_86 rfl rfl ?_
    refine w_getR (p + 2) i_30_87 hκ (pl_ob hp) rfl rfl ?_
    exact w_callVI (i := _) i_30_90 ⟨by decide, by decide, by decide, rfl⟩ hκ (⟨rfl, by decide⟩ : isOb 113 1) (av := [.ref (p + 2)]) (rest := [.ref p]) rfl rfl (Nat.le_of_ble_eq_true rfl) (k1 h2)
  refine w_if2n (t < 1000) i_30_62 (cN_ge (a := t) (b := 1000) (by omega) (by omega)) ?_ ?_
  · intro h3
    refine w_load i_30_65 rfl rfl ?_
    refine w_if0n (0 < le) i_30_66 cI0_le ?_ ?_
    · intro h4
      refine w_load i_30_69 rfl rfl ?_
      refine w_load i_30_70 rfl rfl ?_
      refine w_load i_30_71 rfl rfl ?_
      refine w_load i_30_72 rfl rfl ?_
      exact w_callSI i_30_73 ⟨by decide, by decide, by decide, rfl, rfl⟩ (av := [.ref 113, .ref p, .int (nI t)]) (rest := [.int le]) rfl rfl (Nat.le_of_ble_eq_true rfl) (k2 h3 h4)
    · intro h5
      exact (by first | exact (K1 (.inl ⟨h3, h5⟩)) | (have K9 := K1 (.inl ⟨h3, h5⟩); simp only [↓if_pos h3, ↓if_neg h5] at K9 ⊢; exact (K9)))
  · intro h6
    exact (by first | exact (K1 (.inr h6)) | (have K9 := K1 (.inr h6); simp only [↓if_neg h6] at K9 ⊢; exact (K9)))
theorem S30_76 {Q : Ou → Prop} {M : Mem} {κ : Kp} (hκ : Rd κ) {p n : Nat} (hp : isPl p) (hn : n ≤ 10) (hc : M 113 0 = nI n) {le : Int32} {t : Nat} {g : Int32} (b_t : t ≤ 100000)
    (k1 : RT 30 (58, [.ref 113, .ref p, .int (le - g), .int (nI (t + 1))], [], M, κ) Q)
    : RT 30 (76, [.ref 113, .ref p, .int le, .int (nI t)], [.int g, .int le], M, κ) Q := by
  refine w_bin (w := (le - g)) i_30_76 rfl rfl ?_
  refine w_store (l1 := [.ref 113, .ref p, .int (le - g), .int (nI t)]) i_30_77 rfl (Nat.le_of_ble_eq_true rfl) rfl ?_
  refine w_iincN (n := t) (l1 := [.ref 113, .ref p, .int (le - g), .int (nI (t + 1))]) 1 i_30_78 rfl rfl ?_
  refine w_goto i_30_81 ?_
  exact (k1)
theorem S30_93 {Q : Ou → Prop} {M : Mem} {κ : Kp} (hκ : Rd κ) {p n : Nat} (hp : isPl p) (hn : n ≤ 10) (hc : M 113 0 = nI n) {le : Int32}
    (k1 : Q (.inl none, (stM M p 0 le), κ))
    : RT 30 (93, [.ref 113, .ref p, UU, UU], [.int le, .ref p], M, κ) Q := by
  refine w_putI i_30_93 hκ (pl_ob hp) rfl (fun c => absurd c (by decide)) ?_
  exact w_vret i_30_96 rfl (k1)
variable {Q : Ou → Prop} {M M0 : Mem} {κ : Kp}
theorem nI_sub1 {a : Nat} (h : 1 ≤ a) : nI a - 1 = nI (a - 1) := by
  have e : nI a = nI (a - 1) + 1 := by
    rw [← nI_succ, Nat.sub_add_cancel h]
  rw [e]
  apply Int32.toInt_inj.mp
  simp
theorem nI_sub0 {a : Int32} : a - bI false = a := by
  apply Int32.toInt_inj.mp
  simp [bI]
theorem nI_sub {a b : Nat} (h : b ≤ a) : nI a - nI b = nI (a - b) := by
  have e : nI a = nI (a - b) + nI b := by
    rw [nI_add, Nat.sub_add_cancel h]
  rw [e]
  apply Int32.toInt_inj.mp
  simp
theorem use_zero {Pt : Nat → Bool} {c : Nat → Int32} {t : Int32} {d : Bool} : ∀ m, (∀ k, k < m → ¬ c k = t) → use Pt c d t m = 0
  | 0, h => rfl
  | m + 1, h => by rw [use, use_zero m (fun k hk => h k (by omega)), if_neg (fun z => h m (Nat.lt_succ_self m) z.1)]
theorem km1 : nI 0 - 1 = -1 := by decide
theorem m1_lt : (-1 : Int32) < 0 := by decide
theorem nI_dec9 {m : Nat} : nI m + (-1) = nI m - 1 := by
  apply Int32.toInt_inj.mp
  simp [Int.sub_eq_add_neg]
theorem sch_none : ∀ m, sch (fun _ => -1) m = 0
  | 0 => rfl
  | m + 1 => by rw [sch, if_pos rfl, sch_none m]
theorem ow_congr {o : Option Int32} {m : Int32} {g g' : Int32 → Int32} (h : ∀ w, o = some w → g w = g' w) : ow o m g = ow o m g' := by
  cases o with
  | none => rfl
  | some w => exact h w rfl
section S
variable {p n t : Nat} {W : Nat → Nat → Option Int32} {c : Nat → Int32} {Pt : Nat → Bool} {U : Bool → Nat} {L : Nat → Int32}
theorem f31 (hκ : Rd κ) (hp : isPl p) (hn : n ≤ 10) (ht : t ≤ 1000) (hc : M0 113 0 = nI n) (hal : M0 113 2 = nI (U false)) (hpo : M0 113 3 = nI (U true)) (hPt : ∀ k, k < n → M0 114 k = bI (Pt k)) (hW : CW M0 n W) (hr : Wrg n W) (hcy : ∀ i, i < n → M0 (p + 2) i = c i) (hU : ∀ b, 1 ≤ U b ∧ U b ≤ 10) (hL : Lr n W (M0 (p + 1)) Pt U c t) (hI : Linv n c t) (hz : ∀ k, k < n → ¬ c k = nI t)
    (K : ∀ M c', (∀ o x, ¬ o = p + 2 → M o x = M0 o x) → (∀ i, i < n → M (p + 2) i = c' i) → Lr n W (M0 (p + 1)) Pt U c' t → Linv n c' t → pk n W (M0 (p + 1)) Pt U c' (nI t) n = none → sch c n ≤ sch c' n → Q (.inl (some (.int (nI (sch c' n - sch c n)))), M, κ)) : RT 31 (0, entL 31 [.ref 113, .ref p, .int (nI t)], [], M0, κ) Q := by
  have hr2 := pl_rng hp
  refine S31_0 (k := 0) (fa := 0) (fp := 0) hκ hp (by omega) hn hc hPt (by omega) ?_
  rw [hal, hpo]
  refine loopI (n := n) (fun g (a : Mem × Int32 × Int32) => RT 31 (14, [.ref 113, .ref p, .int (nI t), .int a.2.1, .int a.2.2, .int (nI g), UU], [], a.1, κ) Q) (fun g a => ∃ c', (∀ o x, ¬ o = p + 2 → a.1 o x = M0 o x) ∧ (∀ i, i < n → a.1 (p + 2) i = c' i) ∧ Lr n W (M0 (p + 1)) Pt U c' t ∧ Linv n c' t ∧ sch c' n = sch c n + g ∧ a.2.1 = nI (U false - use Pt c' false (nI t) n) ∧ a.2.2 = nI (U true - use Pt c' true (nI t) n) ∧ ∀ b, use Pt c' b (nI t) n ≤ U b) (fun g a hg hI2 ih => ?_) (fun a hI2 => ?_) 0 (M0, nI (U false), nI (U true)) (Nat.zero_le _) ⟨c, fun _ _ _ => rfl, hcy, hL, hI, rfl, ?_, ?_, fun b => ?_⟩
  · obtain ⟨M, fa, fp⟩ := a
    obtain ⟨c', h1, h2, h3, h4, h5, h6, h7, h8⟩ := hI2
    dsimp only at h1 h2 h6 h7 ⊢
    have hV : M (p + 1) = M0 (p + 1) := funext fun x => h1 _ x (by omega)
    have hc1 : M 113 0 = nI n := (h1 _ _ (by omega)).trans hc
    have hP1 : ∀ k, k < n → M 114 k = bI (Pt k) := fun k hk => (h1 _ _ (by omega)).trans (hPt k hk)
    have hW1 : CW M n W := fun i j hi hj => (h1 _ _ (by omega)).trans (hW i j hi hj)
    have hrun := c32 (M := M) (κ := κ) (t := t) (c := c') (U := U) hκ hp hn ht hc1 hP1 hW1 hr h2 (fun b => ⟨h8 b, (hU b).2⟩)
    rw [hV, ← h6, ← h7] at hrun
    cases q : pk n W (M0 (p + 1)) Pt U c' (nI t) n with
    | none =>
      rw [q] at hrun
      refine S31_14 (r_29 := -1) hκ hp (by omega) hn hc1 hP1 (by omega) (fun _ => hrun) (fun _ z => absurd rfl z) (fun _ _ => ?_) (fun _ z => absurd rfl z) (fun z => absurd hg z)
      have := K M c' h1 h2 h3 h4 q (by omega)
      rw [h5, Nat.add_sub_cancel_left] at this
      exact this
    | some b =>
      rw [q] at hrun
      have hb := pkk_lt n b q
      have hbe := hb.2
      unfold eli at hbe
      rw [Bool.and_eq_true, Bool.and_eq_true, decide_eq_true_iff, decide_eq_true_iff] at hbe
      have hb1 := hbe.1.1
      have hb2 := hbe.1.2
      have hbn : ¬ c' b = nI t := by
        rw [hb1]
        exact fun z => nI_m1 (by omega) z.symm
      refine S31_14 (r_29 := nI b) hκ hp (by omega) hn hc1 hP1 (by omega) (fun _ => hrun) (fun _ _ => vp_in_nI (by omega) (by decide)) (fun _ z => absurd z (nI_m1 (by omega))) (fun _ _ => ?_) (fun z => absurd hg z)
      rw [nI_clamp (by omega), hP1 b hb.1]
      refine ih (stM M (p + 2) b (nI t), _, _) ⟨up c' b (nI t), fun o x h => (stM_o h).trans (h1 o x h), fun i hi => ?_, Lr_pick h3 q, Linv_pick h4 hn hb.1 hb1, ?_, ?_, ?_, fun d => ?_⟩
      · dsimp only
        by_cases e : i = b
        · rw [e, stM_s, up_s]
        · rw [stM_j e, up_o e]
          exact h2 i hi
      · rw [sch_up hb1 (nI_m1 (by omega)), if_pos hb.1]
        omega
      · dsimp only
        rw [use_up hbn, h6]
        cases e : Pt b with
        | true =>
          rw [if_neg (show ¬ bI true = 0 by decide), nI_sub0, if_neg (fun z => by cases z.2), Nat.add_zero]
        | false =>
          rw [e] at hb2
          rw [if_pos (show bI false = 0 from rfl), if_pos ⟨hb.1, rfl⟩]
          exact (nI_sub1 (by omega)).trans (congrArg nI (by omega))
      · dsimp only
        rw [use_up hbn, h7]
        cases e : Pt b with
        | true =>
          rw [e] at hb2
          rw [if_neg (show ¬ bI true = 0 by decide), if_pos ⟨hb.1, rfl⟩]
          exact (nI_sub1 (by omega)).trans (congrArg nI (by omega))
        | false =>
          rw [if_pos (show bI false = 0 from rfl), nI_sub0, if_neg (fun z => by cases z.2), Nat.add_zero]
      · rw [use_up hbn]
        have := h8 d
        by_cases e : Pt b = d
        · rw [e] at hb2
          rw [if_pos ⟨hb.1, e⟩]
          omega
        · rw [if_neg (fun z => e z.2)]
          omega
  · obtain ⟨M, fa, fp⟩ := a
    obtain ⟨c', h1, h2, h3, h4, h5, h6, h7, h8⟩ := hI2
    dsimp only at h1 h2 ⊢
    have hl := sch_le (c := c') n
    have hfull : sch c' n = n := by omega
    refine S31_14 (r_29 := -1) hκ hp (Nat.le_refl _) hn ((h1 _ _ (by omega)).trans hc) (fun k hk => (h1 _ _ (by omega)).trans (hPt k hk)) (by omega) (fun z => absurd z (Nat.lt_irrefl _)) (fun z => absurd z (Nat.lt_irrefl _)) (fun z => absurd z (Nat.lt_irrefl _)) (fun z => absurd z (Nat.lt_irrefl _)) (fun _ => ?_)
    have := K M c' h1 h2 h3 h4 (pkk_full hfull) (by omega)
    rw [h5, Nat.add_sub_cancel_left] at this
    exact this
  · rw [use_zero n hz, Nat.sub_zero]
  · rw [use_zero n hz, Nat.sub_zero]
  · rw [use_zero n hz]
    exact Nat.zero_le _
theorem gb_congr {V V' : Nat → Int32} {k : Nat} {m : Int32} (h : ∀ j, j < n → W k j ≠ none → V j = V' j) : gb W V k m n = gb W V' k m n := by
  unfold gb
  refine fo_congr (fun j b hj => ow_congr (fun w hw => ?_))
  have e := h j hj (by rw [hw]; exact Option.some_ne_none w)
  show mx b (w + V j) = mx b (w + V' j)
  rw [e]
theorem f30 (hκ : Rd κ) (hp : isPl p) (hn : n ≤ 10) (hc : M0 113 0 = nI n) (hal : M0 113 2 = nI (U false)) (hpo : M0 113 3 = nI (U true)) (hPt : ∀ k, k < n → M0 114 k = bI (Pt k)) (hLm : ∀ k, k < n → M0 115 k = L k) (hU : ∀ b, 1 ≤ U b ∧ U b ≤ 10) (hr : Wrg n W) (hlt : ∀ i j, i < n → j < n → W i j ≠ none → i < j)
    (hw : ∀ Q' : Ou → Prop, (∀ M, (∀ o x, ¬ o = 118 → M o x = M0 o x) → CW M n W → Q' (.inl none, M, κ)) → RT 25 (0, entL 25 [.ref 113, .int 0, .int 0], [], M0, κ) Q')
    (K : ∀ M H c t, (∀ o x, ¬ (o = 118 ∨ (o = p ∧ x = 0) ∨ o = p + 1 ∨ o = p + 2) → M o x = M0 o x) → CW M n W → (∀ k, k < n → H k = gb W H k (L k) n) → M (p + 1) = H → (∀ i, i < n → M (p + 2) i = c i) → Lr n W H Pt U c t → Linv n c t → sch c n = n → M p 0 = endF (M (p + 2)) L n → Q (.inl none, M, κ)) : RT 30 (0, entL 30 [.ref 113, .ref p], [], M0, κ) Q := by
  have hr2 := pl_rng hp
  refine S30_0 hκ hp (hw _ (fun M1 f1 hW1 => ⟨none, M1, κ, rfl, ?_⟩))
  refine Sm30_6 hκ hp hn ((f1 _ _ (by omega)).trans hc) ?_
  -- the second loop
  have B : ∀ H, (∀ k, k < n → H k = gb W H k (L k) n) → ∀ d t M c, 100 ≤ t + d → t ≤ 81 → (∀ o x, ¬ (o = 118 ∨ o = p + 1 ∨ o = p + 2) → M o x = M0 o x) → CW M n W → M (p + 1) = H → (∀ i, i < n → M (p + 2) i = c i) → ((sch c n = n ∧ ∃ t', Lr n W H Pt U c t' ∧ Linv n c t') ∨ (¬ sch c n = n ∧ Lr n W H Pt U c t ∧ Linv n c t ∧ ∀ k, k < n → ¬ c k = nI t)) → RT 30 (58, [.ref 113, .ref p, .int (nI (n - sch c n)), .int (nI t)], [], M, κ) Q := by
    intro H hH d
    induction d with
    | zero =>
      intro t M c hd ht hf hW hV hcy hs
      omega
    | succ d ih =>
      intro t M c hd ht hf hW hV hcy hs
      have hl := sch_le (c := c) n
      have hc1 : M 113 0 = nI n := (hf _ _ (by omega)).trans hc
      have hleft : (0 : Int32) < nI (n - sch c n) ↔ ¬ sch c n = n := by
        rw [ltI, nI_toInt (by omega), c0]
        omega
      refine S30_58 hκ hp hn hc1 (by omega) (fun h => ?_) (fun h1 h2 => ?_)
      · have hfull : sch c n = n := by
          rcases h with h | h
          · exact Classical.byContradiction (fun z => h.2 (hleft.mpr z))
          · omega
        rcases hs with ⟨_, t', hL, hI⟩ | hs
        · refine RT_of (c29 (L := L) hκ (pl_ar hp 2 (by decide)) hn hc1 (fun k hk => (hf _ _ (by omega)).trans (hLm k hk))) ⟨_, M, κ, rfl, ?_⟩
          refine w_weak (lle_s (lle_s (lle_u (lle_u lle_n)))) (S30_93 hκ hp hn hc1 ?_)
          refine K _ H c t' (fun o x h => ?_) (fun i j hi hj => ?_) hH ?_ (fun i hi => ?_) hL hI hfull ?_
          · rw [stM_n (by omega)]
            exact hf o x (by omega)
          · rw [stM_n (by omega)]
            exact hW i j hi hj
          · rw [stM_ob (by omega)]
            exact hV
          · rw [stM_n (by omega)]
            exact hcy i hi
          · rw [stM_s, stM_ob (by omega)]
        · exact absurd hfull hs.1
      · have hnf := hleft.mp h2
        rcases hs with hs | ⟨_, hL, hI, hz⟩
        · exact absurd hs.1 hnf
        · have hIl := Linv_le hI hn
          refine f31 (c := c) (W := W) (Pt := Pt) (U := U) hκ hp hn (by omega) hc1 ((hf _ _ (by omega)).trans hal) ((hf _ _ (by omega)).trans hpo) (fun k hk => (hf _ _ (by omega)).trans (hPt k hk)) hW hr hcy hU (hV ▸ hL) hI hz ?_
          intro M' c' e1 e2 e3 e4 e5 e6
          refine ⟨_, M', κ, rfl, ?_⟩
          have hl' := sch_le (c := c') n
          refine S30_76 hκ hp hn ((e1 _ _ (by omega)).trans hc1) (by omega) ?_
          rw [nI_sub (by omega), show n - sch c n - (sch c' n - sch c n) = n - sch c' n by omega]
          have hI4 := Linv_le e4 hn
          refine ih (t + 1) M' c' (by omega) (by omega) (fun o x h => (e1 o x (by omega)).trans (hf o x h)) (fun i j hi hj => (e1 _ _ (by omega)).trans (hW i j hi hj)) ((funext fun x => e1 _ x (by omega)).trans hV) e2 ?_
          by_cases q : sch c' n = n
          · exact .inl ⟨q, t, hV ▸ e3, e4⟩
          · refine .inr ⟨q, hV ▸ Lr_next e3 q e5, Linv_next e4 hn (fun b => (hU b).1) hr q e5, fun k hk z => ?_⟩
            obtain ⟨a, q1, q2, q3⟩ := hI4.2 k hk (by rw [z]; exact nI_m1 (by omega))
            rw [q1, nI_eq (by omega) (by omega)] at z
            omega
  -- the first loop
  have A : ∀ m M, m ≤ n → (∀ o x, ¬ (o = 118 ∨ o = p + 1 ∨ o = p + 2) → M o x = M0 o x) → CW M n W → (∀ k, m ≤ k → k < n → M (p + 1) k = gb W (M (p + 1)) k (L k) n ∧ M (p + 2) k = -1) → RT 30 (13, [.ref 113, .ref p, .int (nI m - 1), UU], [], M, κ) Q := by
    intro m
    induction m with
    | zero =>
      intro M hm hf hW hV
      have hc1 : M 113 0 = nI n := (hf _ _ (by omega)).trans hc
      rw [km1]
      refine Sm30_13 (r_34 := 0) hκ hp hn hc1 (fun h => absurd m1_lt h) (fun h => absurd m1_lt h) (fun _ => ?_) (fun h => absurd m1_lt h)
      have hh := B (M (p + 1)) (fun k hk => (hV k (Nat.zero_le _) hk).1) 100 0 M (fun _ => -1) (by omega) (by omega) hf hW rfl (fun i hi => (hV i (Nat.zero_le _) hi).2)
      rw [sch_none, Nat.sub_zero] at hh
      refine hh ?_
      by_cases q : n = 0
      · exact .inl ⟨q.symm, 0, Lr_0, Linv_0⟩
      · exact .inr ⟨fun z => q z.symm, Lr_0, Linv_0, fun k hk z => nI_m1 (by omega) z.symm⟩
    | succ m ih =>
      intro M hm hf hW hV
      have hc1 : M 113 0 = nI n := (hf _ _ (by omega)).trans hc
      have hmn : m < n := hm
      rw [nI_sub1 (by omega), show m + 1 - 1 = m by omega]
      refine S30_13 (r_34 := gb W (M (p + 1)) m (L m) n) hκ hp hmn hn hc1 (fun _ => ?_) (fun z => absurd z (Nat.not_lt_zero _)) (fun _ => ?_)
      · rw [(hf 115 m (by omega)).trans (hLm m hmn)]
        exact c27 hκ (pl_ar hp 1 (by decide)) hmn hn hc1 hW hr
      · rw [nI_dec9]
        have hV2 : ∀ x, ¬ x = m → stM (stM M (p + 1) m (gb W (M (p + 1)) m (L m) n)) (p + 2) m (-1) (p + 1) x = M (p + 1) x := fun x h => (stM_o (by omega)).trans (stM_j h)
        have hgb : ∀ k, m ≤ k → k < n → gb W (stM (stM M (p + 1) m (gb W (M (p + 1)) m (L m) n)) (p + 2) m (-1) (p + 1)) k (L k) n = gb W (M (p + 1)) k (L k) n := fun k h1 h2 => gb_congr (fun j hj hne => hV2 j (by have := hlt k j h2 hj hne; omega))
        refine ih _ (by omega) (fun o x h => ?_) (fun i j hi hj => ?_) (fun k h1 h2 => ⟨?_, ?_⟩)
        · rw [stM_n (by omega), stM_n (by omega)]
          exact hf o x h
        · rw [stM_n (by omega), stM_n (by omega)]
          exact hW i j hi hj
        · rw [hgb k h1 h2]
          by_cases e : k = m
          · subst e
            rw [stM_o (by omega), stM_s]
          · rw [hV2 k e]
            exact (hV k (by omega) h2).1
        · by_cases e : k = m
          · subst e
            rw [stM_s]
          · rw [stM_j e, stM_o (by omega)]
            exact (hV k (by omega) h2).2
  exact A n M1 (Nat.le_refl n) (fun o x h => f1 o x (by omega)) hW1 (fun k h1 h2 => absurd h2 (by omega))
end S
end P_30_list2
