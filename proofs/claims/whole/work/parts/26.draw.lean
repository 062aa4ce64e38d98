/-! THE GRAPH IS DRAWN -/
section P_26_draw
variable {Q : Ou → Prop} {M M0 : Mem} {κ : Kp}
def Ed (M : Mem) (e : Nat) : Option (Int32 × Int32) → Prop
  | none => M 117 e = -1
  | some (d, q) => M 116 e = d ∧ M 117 e = q
def uE (L : Nat → Int32) (O : Op) (lp : Bool) (i j : Nat) : Option (Int32 × Int32) := if i < j ∨ lp = true then (usO L O i j).map (fun w => (w, nI (if i < j then 0 else 1))) else none
def mE (O : Op) (n : Nat) (lp : Bool) (i j : Nat) : Option (Int32 × Int32) := if (i < j ∨ lp = true) ∧ acc O i j = true ∧ ¬ mtF O n lp i j = -1 then some ((if O 0 i = 8 then 1 else 0), mtF O n lp i j) else none
def G1 (M0 M : Mem) (n : Nat) (lp : Bool) (O : Op) (L : Nat → Int32) (i : Nat) : Prop := (∀ o j, (o < 113 ∨ 121 < o) → M o j = M0 o j) ∧ M 113 0 = nI n ∧ M 113 1 = bI lp ∧ M 113 2 = M0 1 0 ∧ M 113 3 = M0 1 1 ∧ ∀ k, k < i → M 114 k = bI (isP (O 0 k)) ∧ M 115 k = L k ∧ M 119 k = loo O (O 2 k) n ∧ M 120 k = sw O (O 2 k) k n ∧ M 121 k = amo O (O 2 k) n
def G2 (M : Mem) (n : Nat) (lp : Bool) (O : Op) (L : Nat → Int32) (i j : Nat) : Prop := ∀ i' j', i' < n → j' < n → (i' < i ∨ (i' = i ∧ j' < j)) → Ed M (i' * 10 + j') (uE L O lp i' j') ∧ Ed M (100 + (i' * 10 + j')) (mE O n lp i' j')
theorem Ed_eq {M M' : Mem} {e : Nat} {o : Option (Int32 × Int32)} (h1 : M' 116 e = M 116 e) (h2 : M' 117 e = M 117 e) (h : Ed M e o) : Ed M' e o := by
  match o, h with
  | none, h => exact h2.trans h
  | some (d, q), h => exact ⟨h1.trans h.1, h2.trans h.2⟩
theorem G1_eq {M' : Mem} {n : Nat} {lp : Bool} {O : Op} {L : Nat → Int32} {i : Nat} (h : G1 M0 M n lp O L i) (he : ∀ o j, ¬ (o = 116 ∨ o = 117) → M' o j = M o j) : G1 M0 M' n lp O L i := by
  obtain ⟨h1, h2, h3, h4, h5, h6⟩ := h
  refine ⟨fun o j ho => (he o j (by omega)).trans (h1 o j ho), (he _ _ (by decide)).trans h2, (he _ _ (by decide)).trans h3, (he _ _ (by decide)).trans h4, (he _ _ (by decide)).trans h5, fun k hk => ?_⟩
  obtain ⟨a1, a2, a3, a4, a5⟩ := h6 k hk
  exact ⟨(he _ _ (by decide)).trans a1, (he _ _ (by decide)).trans a2, (he _ _ (by decide)).trans a3, (he _ _ (by decide)).trans a4, (he _ _ (by decide)).trans a5⟩
theorem i_18_0 : ins 18 0 = some (.aload_n 0, 1, 0, 0, 0, 0) := rfl
theorem i_18_1 : ins 18 1 = some (.aload_n 1, 2, 1, 0, 0, 0) := rfl
theorem i_18_2 : ins 18 2 = some (.getfield 51, 5, 0, 4, 0, 0) := rfl
theorem i_18_5 : ins 18 5 = some (.putfield 9, 8, 1, 0, 0, 0) := rfl
theorem i_18_8 : ins 18 8 = some (.aload_n 0, 9, 0, 0, 0, 0) := rfl
theorem i_18_9 : ins 18 9 = some (.aload_n 1, 10, 1, 0, 0, 0) := rfl
theorem i_18_10 : ins 18 10 = some (.getfield 54, 13, 0, 0, 0, 0) := rfl
theorem i_18_13 : ins 18 13 = some (.iconst 3, 14, 0, 0, 0, 3) := rfl
theorem i_18_14 : ins 18 14 = some (.if_icmp .ne 7, 17, 21, 0, 0, 0) := rfl
theorem i_18_17 : ins 18 17 = some (.iconst 1, 18, 0, 0, 0, 1) := rfl
theorem i_18_18 : ins 18 18 = some (.goto 4, 21, 22, 0, 0, 0) := rfl
theorem i_18_21 : ins 18 21 = some (.iconst 0, 22, 0, 0, 0, 0) := rfl
theorem i_18_22 : ins 18 22 = some (.putfield 15, 25, 1, 1, 0, 0) := rfl
theorem i_18_25 : ins 18 25 = some (.aload_n 0, 26, 0, 0, 0, 0) := rfl
theorem i_18_26 : ins 18 26 = some (.aload_n 2, 27, 2, 0, 0, 0) := rfl
theorem i_18_27 : ins 18 27 = some (.getfield 57, 30, 2, 0, 0, 0) := rfl
theorem i_18_30 : ins 18 30 = some (.putfield 19, 33, 1, 2, 0, 0) := rfl
theorem i_18_33 : ins 18 33 = some (.aload_n 0, 34, 0, 0, 0, 0) := rfl
theorem i_18_34 : ins 18 34 = some (.aload_n 2, 35, 2, 0, 0, 0) := rfl
theorem i_18_35 : ins 18 35 = some (.getfield 60, 38, 2, 1, 0, 0) := rfl
theorem i_18_38 : ins 18 38 = some (.putfield 22, 41, 1, 3, 0, 0) := rfl
theorem i_18_41 : ins 18 41 = some (.iconst 0, 42, 0, 0, 0, 0) := rfl
theorem i_18_42 : ins 18 42 = some (.istore_n 3, 43, 3, 0, 0, 0) := rfl
theorem S18_0 {Q : Ou → Prop} {M : Mem} {κ : Kp} (hκ : Rd κ) {b n : Nat} {e : Int32} (hb : isBl b) (hc : M b 4 = nI n) (he : M b 0 = e)  
    (k1 : RT 18 (43, [.ref 113, .ref b, .ref 1, .int (nI 0), UU], [], (stM (stM (stM (stM M 113 0 (nI n)) 113 1 (bI (if e = 3 then true else false))) 113 2 (M 1 0)) 113 3 (M 1 1)), κ) Q)
    : RT 18 (0, [.ref 113, .ref b, .ref 1, UU, UU], [], M, κ) Q := by
  refine w_load i_18_0 rfl rfl ?_
  refine w_load i_18_1 rfl rfl ?_
  refine w_getI (v := (nI n)) i_18_2 hκ (bl_ob hb) rfl (hc) ?_
  refine w_putI i_18_5 hκ (⟨rfl, by decide⟩ : isOb 113 1) rfl (fun c => absurd c (by decide)) ?_
  refine w_load i_18_8 rfl rfl ?_
  refine w_load i_18_9 rfl rfl ?_
  refine w_getI (v := e) i_18_10 hκ (bl_ob hb) rfl ((stM_o (by have := bl_rng hb; omega)).trans (he)) ?_
  refine w_push i_18_13 rfl ?_
  have K1 : RT 18 (22, [.ref 113, .ref b, .ref 1, UU, UU], [.int (bI (if e = 3 then true else false)), .ref 113], (stM M 113 0 (nI n)), κ) Q := by
    refine w_putI i_18_22 hκ (⟨rfl, by decide⟩ : isOb 113 1) rfl (fun _ => isB_bI _) ?_
    refine w_load i_18_25 rfl rfl ?_
    refine w_load i_18_26 rfl rfl ?_
    refine w_getI (v := (M 1 0)) i_18_27 hκ (⟨rfl, by decide⟩ : isOb 1 2) rfl ((stM_o (by decide)).trans ((stM_o (by decide)).trans (rfl))) ?_
    refine w_putI i_18_30 hκ (⟨rfl, by decide⟩ : isOb 113 1) rfl (fun c => absurd c (by decide)) ?_
    refine w_load i_18_33 rfl rfl ?_
    refine w_load i_18_34 rfl rfl ?_
    refine w_getI (v := (M 1 1)) i_18_35 hκ (⟨rfl, by decide⟩ : isOb 1 2) rfl ((stM_o (by decide)).trans ((stM_o (by decide)).trans ((stM_o (by decide)).trans (rfl)))) ?_
    refine w_putI i_18_38 hκ (⟨rfl, by decide⟩ : isOb 113 1) rfl (fun c => absurd c (by decide)) ?_
    refine w_push i_18_41 rfl ?_
    refine w_store (l1 := [.ref 113, .ref b, .ref 1, .int 0, UU]) i_18_42 rfl (Nat.le_of_ble_eq_true rfl) rfl ?_
    exact (k1)
  refine w_if2n (e = 3) i_18_14 cI_ne ?_ ?_
  · intro h2
    refine w_push i_18_17 rfl ?_
    refine w_goto i_18_18 ?_
    exact (by first | exact (K1) | (have K9 := K1; simp only [↓if_pos h2] at K9 ⊢; exact (K9)))
  · intro h3
    refine w_push i_18_21 rfl ?_
    exact (by first | exact (K1) | (have K9 := K1; simp only [↓if_neg h3] at K9 ⊢; exact (K9)))
theorem i_18_43 : ins 18 43 = some (.iload_n 3, 44, 3, 0, 0, 0) := rfl
theorem i_18_44 : ins 18 44 = some (.aload_n 0, 45, 0, 0, 0, 0) := rfl
theorem i_18_45 : ins 18 45 = some (.getfield 9, 48, 1, 0, 0, 0) := rfl
theorem i_18_48 : ins 18 48 = some (.if_icmp .ge 46, 51, 94, 0, 0, 0) := rfl
theorem i_18_51 : ins 18 51 = some (.aload_n 0, 52, 0, 0, 0, 0) := rfl
theorem i_18_52 : ins 18 52 = some (.getfield 25, 55, 1, 4, 0, 0) := rfl
theorem i_18_55 : ins 18 55 = some (.iload_n 3, 56, 3, 0, 0, 0) := rfl
theorem i_18_56 : ins 18 56 = some (.aload_n 1, 57, 1, 0, 0, 0) := rfl
theorem i_18_57 : ins 18 57 = some (.getfield 61, 60, 0, 6, 0, 0) := rfl
theorem i_18_60 : ins 18 60 = some (.iload_n 3, 61, 3, 0, 0, 0) := rfl
theorem i_18_61 : ins 18 61 = some (.iaload, 62, 0, 0, 0, 0) := rfl
theorem i_18_62 : ins 18 62 = some (.invokestatic 64, 65, 83, 5, 1, 0) := rfl
theorem i_18_65 : ins 18 65 = some (.bastore, 66, 0, 0, 0, 0) := rfl
theorem i_18_66 : ins 18 66 = some (.aload_n 0, 67, 0, 0, 0, 0) := rfl
theorem i_18_67 : ins 18 67 = some (.getfield 29, 70, 1, 5, 0, 0) := rfl
theorem i_18_70 : ins 18 70 = some (.iload_n 3, 71, 3, 0, 0, 0) := rfl
theorem i_18_71 : ins 18 71 = some (.aload_n 2, 72, 2, 0, 0, 0) := rfl
theorem i_18_72 : ins 18 72 = some (.aload_n 1, 73, 1, 0, 0, 0) := rfl
theorem i_18_73 : ins 18 73 = some (.getfield 61, 76, 0, 6, 0, 0) := rfl
theorem i_18_76 : ins 18 76 = some (.iload_n 3, 77, 3, 0, 0, 0) := rfl
theorem i_18_77 : ins 18 77 = some (.iaload, 78, 0, 0, 0, 0) := rfl
theorem i_18_78 : ins 18 78 = some (.invokevirtual 67, 81, 35, 0, 2, 0) := rfl
theorem i_18_81 : ins 18 81 = some (.iastore, 82, 0, 0, 0, 0) := rfl
theorem i_18_82 : ins 18 82 = some (.aload_n 0, 83, 0, 0, 0, 0) := rfl
theorem i_18_83 : ins 18 83 = some (.aload_n 1, 84, 1, 0, 0, 0) := rfl
theorem i_18_84 : ins 18 84 = some (.iload_n 3, 85, 3, 0, 0, 0) := rfl
theorem i_18_85 : ins 18 85 = some (.invokevirtual 70, 88, 24, 0, 3, 0) := rfl
theorem i_18_88 : ins 18 88 = some (.iinc 3 1, 91, 3, 0, 0, 1) := rfl
theorem i_18_91 : ins 18 91 = some (.goto (-48), 94, 43, 0, 0, 0) := rfl
theorem i_18_94 : ins 18 94 = some (.iconst 0, 95, 0, 0, 0, 0) := rfl
theorem i_18_95 : ins 18 95 = some (.istore_n 3, 96, 3, 0, 0, 0) := rfl
theorem i_18_96 : ins 18 96 = some (.iload_n 3, 97, 3, 0, 0, 0) := rfl
theorem i_18_97 : ins 18 97 = some (.aload_n 0, 98, 0, 0, 0, 0) := rfl
theorem i_18_98 : ins 18 98 = some (.getfield 9, 101, 1, 0, 0, 0) := rfl
theorem i_18_101 : ins 18 101 = some (.if_icmp .ge 83, 104, 184, 0, 0, 0) := rfl
theorem i_18_104 : ins 18 104 = some (.iconst 0, 105, 0, 0, 0, 0) := rfl
theorem i_18_105 : ins 18 105 = some (.istore 4, 107, 4, 0, 0, 0) := rfl
theorem i_18_184 : ins 18 184 = some (.return_, 185, 0, 0, 0, 0) := rfl
theorem S18_43 {Q : Ou → Prop} {M : Mem} {κ : Kp} (hκ : Rd κ) {b n i j : Nat} {O : Op} {pl mu di lo : Int32} {lp : Bool} (hb : isBl b) (hi : i ≤ n) (hj : j ≤ n) (hn : n ≤ 10) (hc2 : M 113 0 = nI n) (hlp : M 113 1 = bI lp) (hpl : M 1 2 = pl) (hmu : M 1 3 = mu) (hdi : M 1 4 = di) (hlo : M 1 5 = lo) (hO : ∀ f, f < 6 → ∀ j, j < n → M (b + 1 + f) j = O f j) 
    (k1 : i < n → RT 24 (0, entL 24 [.ref 113, .ref b, .int (nI i)], [], (stM (stM M 114 i (bI (isP (O 0 i)))) 115 i (latF pl mu di lo (O 0 i))), κ) (fun o => ∃ v M1 κ1, o = (.inl v, M1, κ1) ∧ RT 18 (88, [.ref 113, .ref b, .ref 1, .int (nI i), UU], v.toList ++ [], M1, κ1) Q))
    (k2 : ¬ (i < n) → RT 18 (96, [.ref 113, .ref b, UU, .int (nI 0), UU], [], M, κ) Q)
    : RT 18 (43, [.ref 113, .ref b, .ref 1, .int (nI i), UU], [], M, κ) Q := by
  refine w_load i_18_43 rfl rfl ?_
  refine w_load i_18_44 rfl rfl ?_
  refine w_getI (v := (nI n)) i_18_45 hκ (⟨rfl, by decide⟩ : isOb 113 1) rfl (hc2) ?_
  refine w_if2n (i < n) i_18_48 (cN_ge (a := i) (b := n) (by omega) (by omega)) ?_ ?_
  · intro h1
    refine w_load i_18_51 rfl rfl ?_
    refine w_getR 114 i_18_52 hκ (⟨rfl, by decide⟩ : isOb 113 1) rfl rfl ?_
    refine w_load i_18_55 rfl rfl ?_
    refine w_load i_18_56 rfl rfl ?_
    refine w_getR (b + 1) i_18_57 hκ (bl_ob hb) rfl rfl ?_
    refine w_load i_18_60 rfl rfl ?_
    refine w_ialdN (e := i) (v := (O 0 i)) i_18_61 hκ (bl_ar hb 1 (by decide)) (by omega) (by decide) (hO 0 (by decide) i (by omega)) ?_
    refine w_callS i_18_62 ⟨by decide, by decide, by decide, rfl, rfl⟩ (av := [.int (O 0 i)]) (rest := [.int (nI i), .ref 114]) rfl rfl (Nat.le_of_ble_eq_true rfl) (v := some (.int (bI (isP (O 0 i))))) (c83 hκ) ?_
    refine w_zastN (e := i) i_18_65 hκ (⟨rfl, rfl, by decide⟩ : isZr 114 10) (by omega) (by decide) (isB_bI _) ?_
    refine w_load i_18_66 rfl rfl ?_
    refine w_getR 115 i_18_67 hκ (⟨rfl, by decide⟩ : isOb 113 1) rfl rfl ?_
    refine w_load i_18_70 rfl rfl ?_
    refine w_load i_18_71 rfl rfl ?_
    refine w_load i_18_72 rfl rfl ?_
    refine w_getR (b + 1) i_18_73 hκ (bl_ob hb) rfl rfl ?_
    refine w_load i_18_76 rfl rfl ?_
    refine w_ialdN (e := i) (v := (O 0 i)) i_18_77 hκ (bl_ar hb 1 (by decide)) (by omega) (by decide) ((stM_o (by have := bl_rng hb; omega)).trans (hO 0 (by decide) i (by omega))) ?_
    refine w_callV (i := _) i_18_78 ⟨by decide, by decide, by decide, rfl⟩ hκ (⟨rfl, by decide⟩ : isOb 1 2) (av := [.int (O 0 i)]) (rest := [.int (nI i), .ref 115]) rfl rfl (Nat.le_of_ble_eq_true rfl) (v := some (.int (latF pl mu di lo (O 0 i)))) (c35 hκ ((stM_o (by decide)).trans (hpl)) ((stM_o (by decide)).trans (hmu)) ((stM_o (by decide)).trans (hdi)) ((stM_o (by decide)).trans (hlo))) ?_
    refine w_iastN (e := i) i_18_81 hκ (⟨rfl, rfl, by decide⟩ : isAr 115 10) (by omega) (by decide) ?_
    refine w_load i_18_82 rfl rfl ?_
    refine w_load i_18_83 rfl rfl ?_
    refine w_load i_18_84 rfl rfl ?_
    exact w_callVI (i := _) i_18_85 ⟨by decide, by decide, by decide, rfl⟩ hκ (⟨rfl, by decide⟩ : isOb 113 1) (av := [.ref b, .int (nI i)]) (rest := []) rfl rfl (Nat.le_of_ble_eq_true rfl) (k1 h1)
  · intro h2
    refine w_push i_18_94 rfl ?_
    refine w_store (l1 := [.ref 113, .ref b, .ref 1, .int 0, UU]) i_18_95 rfl (Nat.le_of_ble_eq_true rfl) rfl ?_
    exact w_weak (lle_s (lle_s (lle_u (lle_s (lle_s lle_n))))) (k2 h2)
theorem S18_96 {Q : Ou → Prop} {M : Mem} {κ : Kp} (hκ : Rd κ) {b n i j : Nat} {O : Op} {pl mu di lo : Int32} {lp : Bool} (hb : isBl b) (hi : i ≤ n) (hj : j ≤ n) (hn : n ≤ 10) (hc2 : M 113 0 = nI n) (hlp : M 113 1 = bI lp) (hpl : M 1 2 = pl) (hmu : M 1 3 = mu) (hdi : M 1 4 = di) (hlo : M 1 5 = lo) (hO : ∀ f, f < 6 → ∀ j, j < n → M (b + 1 + f) j = O f j) 
    (k1 : i < n → RT 18 (107, [.ref 113, .ref b, UU, .int (nI i), .int (nI 0)], [], M, κ) Q)
    (k2 : ¬ (i < n) → Q (.inl none, M, κ))
    : RT 18 (96, [.ref 113, .ref b, UU, .int (nI i), UU], [], M, κ) Q := by
  refine w_load i_18_96 rfl rfl ?_
  refine w_load i_18_97 rfl rfl ?_
  refine w_getI (v := (nI n)) i_18_98 hκ (⟨rfl, by decide⟩ : isOb 113 1) rfl (hc2) ?_
  refine w_if2n (i < n) i_18_101 (cN_ge (a := i) (b := n) (by omega) (by omega)) ?_ ?_
  · intro h1
    refine w_push i_18_104 rfl ?_
    refine w_store (l1 := [.ref 113, .ref b, UU, .int (nI i), .int 0]) i_18_105 rfl (Nat.le_of_ble_eq_true rfl) rfl ?_
    exact (k1 h1)
  · intro h2
    exact w_vret i_18_184 rfl (k2 h2)
theorem S18_88 {Q : Ou → Prop} {M : Mem} {κ : Kp} (hκ : Rd κ) {b n i j : Nat} {O : Op} {pl mu di lo : Int32} {lp : Bool} (hb : isBl b) (hi : i ≤ n) (hj : j ≤ n) (hn : n ≤ 10) (hc2 : M 113 0 = nI n) (hlp : M 113 1 = bI lp) (hpl : M 1 2 = pl) (hmu : M 1 3 = mu) (hdi : M 1 4 = di) (hlo : M 1 5 = lo) (hO : ∀ f, f < 6 → ∀ j, j < n → M (b + 1 + f) j = O f j) 
    (k1 : RT 18 (43, [.ref 113, .ref b, .ref 1, .int (nI (i + 1)), UU], [], M, κ) Q)
    : RT 18 (88, [.ref 113, .ref b, .ref 1, .int (nI i), UU], [], M, κ) Q := by
  refine w_iincN (n := i) (l1 := [.ref 113, .ref b, .ref 1, .int (nI (i + 1)), UU]) 1 i_18_88 rfl rfl ?_
  refine w_goto i_18_91 ?_
  exact (k1)
theorem i_18_107 : ins 18 107 = some (.iload 4, 109, 4, 0, 0, 0) := rfl
theorem i_18_109 : ins 18 109 = some (.aload_n 0, 110, 0, 0, 0, 0) := rfl
theorem i_18_110 : ins 18 110 = some (.getfield 9, 113, 1, 0, 0, 0) := rfl
theorem i_18_113 : ins 18 113 = some (.if_icmp .ge 65, 116, 178, 0, 0, 0) := rfl
theorem i_18_116 : ins 18 116 = some (.aload_n 0, 117, 0, 0, 0, 0) := rfl
theorem i_18_117 : ins 18 117 = some (.getfield 36, 120, 1, 7, 0, 0) := rfl
theorem i_18_120 : ins 18 120 = some (.iload_n 3, 121, 3, 0, 0, 0) := rfl
theorem i_18_121 : ins 18 121 = some (.iload 4, 123, 4, 0, 0, 0) := rfl
theorem i_18_123 : ins 18 123 = some (.invokestatic 74, 126, 15, 1, 2, 0) := rfl
theorem i_18_126 : ins 18 126 = some (.iconst (-1), 127, 0, 0, 0, (-1)) := rfl
theorem i_18_127 : ins 18 127 = some (.iastore, 128, 0, 0, 0, 0) := rfl
theorem i_18_128 : ins 18 128 = some (.aload_n 0, 129, 0, 0, 0, 0) := rfl
theorem i_18_129 : ins 18 129 = some (.getfield 36, 132, 1, 7, 0, 0) := rfl
theorem i_18_132 : ins 18 132 = some (.bipush 100, 134, 0, 0, 0, 100) := rfl
theorem i_18_134 : ins 18 134 = some (.iload_n 3, 135, 3, 0, 0, 0) := rfl
theorem i_18_135 : ins 18 135 = some (.iload 4, 137, 4, 0, 0, 0) := rfl
theorem i_18_137 : ins 18 137 = some (.invokestatic 74, 140, 15, 1, 2, 0) := rfl
theorem i_18_140 : ins 18 140 = some (.iadd, 141, 0, 0, 0, 0) := rfl
theorem i_18_141 : ins 18 141 = some (.iconst (-1), 142, 0, 0, 0, (-1)) := rfl
theorem i_18_142 : ins 18 142 = some (.iastore, 143, 0, 0, 0, 0) := rfl
theorem i_18_143 : ins 18 143 = some (.iload_n 3, 144, 3, 0, 0, 0) := rfl
theorem i_18_144 : ins 18 144 = some (.iload 4, 146, 4, 0, 0, 0) := rfl
theorem i_18_146 : ins 18 146 = some (.if_icmp .lt 10, 149, 156, 0, 0, 0) := rfl
theorem i_18_149 : ins 18 149 = some (.aload_n 0, 150, 0, 0, 0, 0) := rfl
theorem i_18_150 : ins 18 150 = some (.getfield 15, 153, 1, 1, 0, 0) := rfl
theorem i_18_153 : ins 18 153 = some (.ifCond .eq 19, 156, 172, 0, 0, 0) := rfl
theorem i_18_156 : ins 18 156 = some (.aload_n 0, 157, 0, 0, 0, 0) := rfl
theorem i_18_157 : ins 18 157 = some (.aload_n 1, 158, 1, 0, 0, 0) := rfl
theorem i_18_158 : ins 18 158 = some (.iload_n 3, 159, 3, 0, 0, 0) := rfl
theorem i_18_159 : ins 18 159 = some (.iload 4, 161, 4, 0, 0, 0) := rfl
theorem i_18_161 : ins 18 161 = some (.invokevirtual 78, 164, 19, 0, 4, 0) := rfl
theorem i_18_164 : ins 18 164 = some (.aload_n 0, 165, 0, 0, 0, 0) := rfl
theorem i_18_165 : ins 18 165 = some (.aload_n 1, 166, 1, 0, 0, 0) := rfl
theorem i_18_166 : ins 18 166 = some (.iload_n 3, 167, 3, 0, 0, 0) := rfl
theorem i_18_167 : ins 18 167 = some (.iload 4, 169, 4, 0, 0, 0) := rfl
theorem i_18_169 : ins 18 169 = some (.invokevirtual 82, 172, 22, 0, 4, 0) := rfl
theorem i_18_172 : ins 18 172 = some (.iinc 4 1, 175, 4, 0, 0, 1) := rfl
theorem i_18_175 : ins 18 175 = some (.goto (-68), 178, 107, 0, 0, 0) := rfl
theorem i_18_178 : ins 18 178 = some (.iinc 3 1, 181, 3, 0, 0, 1) := rfl
theorem i_18_181 : ins 18 181 = some (.goto (-85), 184, 96, 0, 0, 0) := rfl
theorem S18_107 {Q : Ou → Prop} {M : Mem} {κ : Kp} (hκ : Rd κ) {b n i j : Nat} {O : Op} {pl mu di lo : Int32} {lp : Bool} (hb : isBl b) (hi : i < n) (hj : j ≤ n) (hn : n ≤ 10) (hc2 : M 113 0 = nI n) (hlp : M 113 1 = bI lp) (hpl : M 1 2 = pl) (hmu : M 1 3 = mu) (hdi : M 1 4 = di) (hlo : M 1 5 = lo) (hO : ∀ f, f < 6 → ∀ j, j < n → M (b + 1 + f) j = O f j) 
    (k1 : j < n → ((i < j) ∨ ((¬ (i < j)) ∧ (lp = true))) → RT 19 (0, entL 19 [.ref 113, .ref b, .int (nI i), .int (nI j)], [], (stM (stM M 117 (i * 10 + j) (-1)) 117 (100 + (i * 10 + j)) (-1)), κ) (fun o => ∃ v M1 κ1, o = (.inl v, M1, κ1) ∧ RT 18 (164, [.ref 113, .ref b, UU, .int (nI i), .int (nI j)], v.toList ++ [], M1, κ1) Q))
    (k2 : j < n → ¬ (i < j) → ¬ (lp = true) → RT 18 (107, [.ref 113, .ref b, UU, .int (nI i), .int (nI (j + 1))], [], (stM (stM M 117 (i * 10 + j) (-1)) 117 (100 + (i * 10 + j)) (-1)), κ) Q)
    (k3 : ¬ (j < n) → RT 18 (96, [.ref 113, .ref b, UU, .int (nI (i + 1)), UU], [], M, κ) Q)
    : RT 18 (107, [.ref 113, .ref b, UU, .int (nI i), .int (nI j)], [], M, κ) Q := by
  refine w_load i_18_107 rfl rfl ?_
  refine w_load i_18_109 rfl rfl ?_
  refine w_getI (v := (nI n)) i_18_110 hκ (⟨rfl, by decide⟩ : isOb 113 1) rfl (hc2) ?_
  refine w_if2n (j < n) i_18_113 (cN_ge (a := j) (b := n) (by omega) (by omega)) ?_ ?_
  · intro h1
    refine w_load i_18_116 rfl rfl ?_
    refine w_getR 117 i_18_117 hκ (⟨rfl, by decide⟩ : isOb 113 1) rfl rfl ?_
    refine w_load i_18_120 rfl rfl ?_
    refine w_load i_18_121 rfl rfl ?_
    refine w_callS i_18_123 ⟨by decide, by decide, by decide, rfl, rfl⟩ (av := [.int (nI i), .int (nI j)]) (rest := [.ref 117]) rfl rfl (Nat.le_of_ble_eq_true rfl) (v := some (.int (nI (i * 10 + j)))) (c15N hκ) ?_
    refine w_push i_18_126 rfl ?_
    refine w_iastN (e := (i * 10 + j)) i_18_127 hκ (⟨rfl, rfl, by decide⟩ : isAr 117 200) (by omega) (by decide) ?_
    refine w_load i_18_128 rfl rfl ?_
    refine w_getR 117 i_18_129 hκ (⟨rfl, by decide⟩ : isOb 113 1) rfl rfl ?_
    refine w_push i_18_132 rfl ?_
    refine w_load i_18_134 rfl rfl ?_
    refine w_load i_18_135 rfl rfl ?_
    refine w_callS i_18_137 ⟨by decide, by decide, by decide, rfl, rfl⟩ (av := [.int (nI i), .int (nI j)]) (rest := [.int 100, .ref 117]) rfl rfl (Nat.le_of_ble_eq_true rfl) (v := some (.int (nI (i * 10 + j)))) (c15N hκ) ?_
    refine w_bin (w := (nI (100 + (i * 10 + j)))) i_18_140 rfl (nI_add 100 (i * 10 + j)) ?_
    refine w_push i_18_141 rfl ?_
    refine w_iastN (e := (100 + (i * 10 + j))) i_18_142 hκ (⟨rfl, rfl, by decide⟩ : isAr 117 200) (by omega) (by decide) ?_
    refine w_load i_18_143 rfl rfl ?_
    refine w_load i_18_144 rfl rfl ?_
    have K2 : ((i < j) ∨ ((¬ (i < j)) ∧ (lp = true))) → RT 18 (156, [.ref 113, .ref b, UU, .int (nI i), .int (nI j)], [], (stM (stM M 117 (i * 10 + j) (-1)) 117 (100 + (i * 10 + j)) (-1)), κ) Q := by
      intro h3
      refine w_load i_18_156 rfl rfl ?_
      refine w_load i_18_157 rfl rfl ?_
      refine w_load i_18_158 rfl rfl ?_
      refine w_load i_18_159 rfl rfl ?_
      exact w_callVI (i := _) i_18_161 ⟨by decide, by decide, by decide, rfl⟩ hκ (⟨rfl, by decide⟩ : isOb 113 1) (av := [.ref b, .int (nI i), .int (nI j)]) (rest := []) rfl rfl (Nat.le_of_ble_eq_true rfl) (k1 h1 h3)
    refine w_if2 (i < j) i_18_146 (cN_lt (a := i) (b := j) (by omega) (by omega)) ?_ ?_
    · intro h4
      exact (by first | exact (K2 (.inl h4)) | (have K9 := K2 (.inl h4); simp only [↓if_pos h4] at K9 ⊢; exact (K9)))
    · intro h5
      refine w_load i_18_149 rfl rfl ?_
      refine w_getI (v := (bI lp)) i_18_150 hκ (⟨rfl, by decide⟩ : isOb 113 1) rfl ((stM_o (by decide)).trans ((stM_o (by decide)).trans (hlp))) ?_
      refine w_if0n (lp = true) i_18_153 cB_eq ?_ ?_
      · intro h6
        exact (by first | exact (K2 (.inr ⟨h5, h6⟩)) | (have K9 := K2 (.inr ⟨h5, h6⟩); simp only [↓if_neg h5, ↓if_pos h6] at K9 ⊢; exact (K9)))
      · intro h7
        refine w_iincN (n := j) (l1 := [.ref 113, .ref b, UU, .int (nI i), .int (nI (j + 1))]) 1 i_18_172 rfl rfl ?_
        refine w_goto i_18_175 ?_
        exact (k2 h1 h5 h7)
  · intro h8
    refine w_iincN (n := i) (l1 := [.ref 113, .ref b, UU, .int (nI (i + 1)), .int (nI j)]) 1 i_18_178 rfl rfl ?_
    refine w_goto i_18_181 ?_
    exact w_weak (lle_s (lle_s (lle_s (lle_s (lle_u lle_n))))) (k3 h8)
theorem S18_164 {Q : Ou → Prop} {M : Mem} {κ : Kp} (hκ : Rd κ) {b n i j : Nat} {O : Op} {pl mu di lo : Int32} {lp : Bool} (hb : isBl b) (hi : i < n) (hj : j ≤ n) (hn : n ≤ 10) (hc2 : M 113 0 = nI n) (hlp : M 113 1 = bI lp) (hpl : M 1 2 = pl) (hmu : M 1 3 = mu) (hdi : M 1 4 = di) (hlo : M 1 5 = lo) (hO : ∀ f, f < 6 → ∀ j, j < n → M (b + 1 + f) j = O f j) 
    (k1 : RT 22 (0, entL 22 [.ref 113, .ref b, .int (nI i), .int (nI j)], [], M, κ) (fun o => ∃ v M1 κ1, o = (.inl v, M1, κ1) ∧ RT 18 (172, [.ref 113, .ref b, UU, .int (nI i), .int (nI j)], v.toList ++ [], M1, κ1) Q))
    : RT 18 (164, [.ref 113, .ref b, UU, .int (nI i), .int (nI j)], [], M, κ) Q := by
  refine w_load i_18_164 rfl rfl ?_
  refine w_load i_18_165 rfl rfl ?_
  refine w_load i_18_166 rfl rfl ?_
  refine w_load i_18_167 rfl rfl ?_
  exact w_callVI (i := _) i_18_169 ⟨by decide, by decide, by decide, rfl⟩ hκ (⟨rfl, by decide⟩ : isOb 113 1) (av := [.ref b, .int (nI i), .int (nI j)]) (rest := []) rfl rfl (Nat.le_of_ble_eq_true rfl) (k1)
theorem S18_172 {Q : Ou → Prop} {M : Mem} {κ : Kp} (hκ : Rd κ) {b n i j : Nat} {O : Op} {pl mu di lo : Int32} {lp : Bool} (hb : isBl b) (hi : i < n) (hj : j ≤ n) (hn : n ≤ 10) (hc2 : M 113 0 = nI n) (hlp : M 113 1 = bI lp) (hpl : M 1 2 = pl) (hmu : M 1 3 = mu) (hdi : M 1 4 = di) (hlo : M 1 5 = lo) (hO : ∀ f, f < 6 → ∀ j, j < n → M (b + 1 + f) j = O f j) 
    (k1 : RT 18 (107, [.ref 113, .ref b, UU, .int (nI i), .int (nI (j + 1))], [], M, κ) Q)
    : RT 18 (172, [.ref 113, .ref b, UU, .int (nI i), .int (nI j)], [], M, κ) Q := by
  refine w_iincN (n := j) (l1 := [.ref 113, .ref b, UU, .int (nI i), .int (nI (j + 1))]) 1 i_18_172 rfl rfl ?_
  refine w_goto i_18_175 ?_
  exact (k1)
theorem l18a (hκ : Rd κ) {b n : Nat} {O : Op} {L : Nat → Int32} {pl mu di lo : Int32} {lp : Bool} (hb : isBl b) (hn : n ≤ 10) (hc : M0 b 4 = nI n) (hpl : M0 1 2 = pl) (hmu : M0 1 3 = mu) (hdi : M0 1 4 = di) (hlo : M0 1 5 = lo) (hO : ∀ f, f < 6 → ∀ j, j < n → M0 (b + 1 + f) j = O f j) (hl : ∀ k, k < n → latF pl mu di lo (O 0 k) = L k)
    (K : ∀ M, G1 M0 M n lp O L n → RT 18 (96, [.ref 113, .ref b, UU, .int (nI 0), UU], [], M, κ) Q) :
    ∀ d i M, i + d = n → G1 M0 M n lp O L i → RT 18 (43, [.ref 113, .ref b, .ref 1, .int (nI i), UU], [], M, κ) Q := by
  have hr := bl_rng hb
  intro d
  induction d with
  | zero =>
    intro i M hi g
    have e : i = n := by omega
    subst e
    have g' := g
    obtain ⟨g1, g2, g3, g4, g5, g6⟩ := g
    exact S18_43 (j := 0) hκ hb (Nat.le_refl _) (by omega) hn g2 g3 ((g1 _ _ (by omega)).trans hpl) ((g1 _ _ (by omega)).trans hmu) ((g1 _ _ (by omega)).trans hdi) ((g1 _ _ (by omega)).trans hlo) (fun f hf j hj => (g1 _ _ (by omega)).trans (hO f hf j hj)) (fun z => absurd z (Nat.lt_irrefl _)) (fun _ => K M g')
  | succ d ih =>
    intro i M hi g
    have hin : i < n := by omega
    obtain ⟨g1, g2, g3, g4, g5, g6⟩ := g
    refine S18_43 (j := 0) hκ hb (by omega) (by omega) hn g2 g3 ((g1 _ _ (by omega)).trans hpl) ((g1 _ _ (by omega)).trans hmu) ((g1 _ _ (by omega)).trans hdi) ((g1 _ _ (by omega)).trans hlo) (fun f hf j hj => (g1 _ _ (by omega)).trans (hO f hf j hj)) (fun _ => ?_) (fun z => absurd hin z)
    have e0 : ∀ o j, ¬ (j = i ∧ (o = 114 ∨ o = 115)) → stM (stM M 114 i (bI (isP (O 0 i)))) 115 i (latF pl mu di lo (O 0 i)) o j = M o j := fun o j h => by rw [stM_n (by omega), stM_n (by omega)]
    refine f24 (O := O) hκ hb hin hn ((e0 _ _ (by omega)).trans ((g1 _ _ (by omega)).trans hc)) (fun f hf j hj => (e0 _ _ (by omega)).trans ((g1 _ _ (by omega)).trans (hO f hf j hj))) ?_
    intro M' h1 h2 h3 h4
    have e1 : ∀ o j, ¬ (j = i ∧ (o = 114 ∨ o = 115 ∨ o = 119 ∨ o = 120 ∨ o = 121)) → M' o j = M o j := fun o j h => (h1 o j (by omega)).trans (e0 o j (by omega))
    refine ⟨none, M', κ, rfl, ?_⟩
    have g' : G1 M0 M' n lp O L (i + 1) := by
      refine ⟨fun o j ho => (e1 o j (by omega)).trans (g1 o j ho), (e1 _ _ (by omega)).trans g2, (e1 _ _ (by omega)).trans g3, (e1 _ _ (by omega)).trans g4, (e1 _ _ (by omega)).trans g5, fun k hk => ?_⟩
      by_cases q : k = i
      · subst q
        refine ⟨?_, ?_, h2, h3, h4⟩
        · rw [h1 _ _ (by omega), stM_n (by omega), stM_s]
        · rw [h1 _ _ (by omega), stM_s, hl _ hin]
      · obtain ⟨a1, a2, a3, a4, a5⟩ := g6 k (by omega)
        exact ⟨(e1 _ _ (by omega)).trans a1, (e1 _ _ (by omega)).trans a2, (e1 _ _ (by omega)).trans a3, (e1 _ _ (by omega)).trans a4, (e1 _ _ (by omega)).trans a5⟩
    have g'' := g'
    obtain ⟨g1, g2, g3, g4, g5, g6⟩ := g'
    exact S18_88 (j := 0) hκ hb (by omega) (by omega) hn g2 g3 ((g1 _ _ (by omega)).trans hpl) ((g1 _ _ (by omega)).trans hmu) ((g1 _ _ (by omega)).trans hdi) ((g1 _ _ (by omega)).trans hlo) (fun f hf j hj => (g1 _ _ (by omega)).trans (hO f hf j hj)) (ih (i + 1) M' (by omega) g'')
def dw1 (M : Mem) (e : Nat) : Mem := stM (stM M 117 e (-1)) 117 (100 + e) (-1)
def dw2 (M : Mem) (L : Nat → Int32) (O : Op) (i j : Nat) : Mem := match usO L O i j with | none => M | some w => stM (stM M 116 (i * 10 + j) w) 117 (i * 10 + j) (nI (if i < j then 0 else 1))
def dw3 (M : Mem) (n : Nat) (lp : Bool) (O : Op) (i j : Nat) : Mem := if acc O i j = true then stM (stM M 116 (100 + (i * 10 + j)) (if O 0 i = 8 then 1 else 0)) 117 (100 + (i * 10 + j)) (mtF O n lp i j) else M
theorem dw1_o {e o x : Nat} (h : ¬ (o = 117 ∧ (x = e ∨ x = 100 + e))) : dw1 M e o x = M o x := by
  unfold dw1
  rw [stM_n (by omega), stM_n (by omega)]
theorem dw2_o {L : Nat → Int32} {O : Op} {i j o x : Nat} (h : ¬ ((o = 116 ∨ o = 117) ∧ x = i * 10 + j)) : dw2 M L O i j o x = M o x := by
  unfold dw2
  cases usO L O i j with
  | none => rfl
  | some w =>
    show stM (stM M 116 (i * 10 + j) w) 117 (i * 10 + j) _ o x = M o x
    rw [stM_n (by omega), stM_n (by omega)]
theorem dw3_o {n : Nat} {lp : Bool} {O : Op} {i j o x : Nat} (h : ¬ ((o = 116 ∨ o = 117) ∧ x = 100 + (i * 10 + j))) : dw3 M n lp O i j o x = M o x := by
  unfold dw3
  split
  · rw [stM_n (by omega), stM_n (by omega)]
  · rfl
theorem dw_u {n : Nat} {L : Nat → Int32} {lp : Bool} {O : Op} {i j : Nat} (h : i < j ∨ lp = true) : Ed (dw3 (dw2 (dw1 M (i * 10 + j)) L O i j) n lp O i j) (i * 10 + j) (uE L O lp i j) := by
  refine Ed_eq (M := dw2 (dw1 M (i * 10 + j)) L O i j) (dw3_o (by omega)) (dw3_o (by omega)) ?_
  unfold uE
  rw [if_pos h]
  unfold dw2
  cases usO L O i j with
  | none =>
    show dw1 M (i * 10 + j) 117 (i * 10 + j) = -1
    unfold dw1
    rw [stM_n (by omega), stM_s]
  | some w => exact ⟨(stM_o (by decide)).trans stM_s, stM_s⟩
theorem dw_m {n : Nat} {L : Nat → Int32} {lp : Bool} {O : Op} {i j : Nat} (h : i < j ∨ lp = true) : Ed (dw3 (dw2 (dw1 M (i * 10 + j)) L O i j) n lp O i j) (100 + (i * 10 + j)) (mE O n lp i j) := by
  unfold mE
  by_cases a : acc O i j = true
  · by_cases q : mtF O n lp i j = -1
    · rw [if_neg (fun z => z.2.2 q)]
      show dw3 _ n lp O i j 117 _ = -1
      unfold dw3
      rw [if_pos a, stM_s, q]
    · rw [if_pos ⟨h, a, q⟩]
      unfold dw3
      rw [if_pos a]
      exact ⟨(stM_o (by decide)).trans stM_s, stM_s⟩
  · rw [if_neg (fun z => a z.2.1)]
    show dw3 _ n lp O i j 117 _ = -1
    unfold dw3
    rw [if_neg a, dw2_o (by omega)]
    unfold dw1
    rw [stM_s]
theorem uE_no {L : Nat → Int32} {O : Op} {lp : Bool} {i j : Nat} (h : ¬ (i < j ∨ lp = true)) : uE L O lp i j = none := if_neg h
theorem mE_no {n : Nat} {O : Op} {lp : Bool} {i j : Nat} (h : ¬ (i < j ∨ lp = true)) : mE O n lp i j = none := if_neg (fun z => h z.1)
theorem l18c (hκ : Rd κ) {b n : Nat} {O : Op} {L : Nat → Int32} {lp : Bool} (hb : isBl b) (hn : n ≤ 10) (hO : ∀ f, f < 6 → ∀ j, j < n → M0 (b + 1 + f) j = O f j) (hL : Lok L n) {i : Nat} (hi : i < n)
    (K : ∀ M, G1 M0 M n lp O L n → G2 M n lp O L (i + 1) 0 → RT 18 (96, [.ref 113, .ref b, UU, .int (nI (i + 1)), UU], [], M, κ) Q) :
    ∀ d j M, j + d = n → G1 M0 M n lp O L n → G2 M n lp O L i j → RT 18 (107, [.ref 113, .ref b, UU, .int (nI i), .int (nI j)], [], M, κ) Q := by
  have hr := bl_rng hb
  intro d
  induction d with
  | zero =>
    intro j M hj g g2'
    have e : j = n := by omega
    subst e
    have g' := g
    obtain ⟨g1, g2, g3, g4, g5, g6⟩ := g
    exact S18_107 hκ hb hi (Nat.le_refl _) hn g2 g3 rfl rfl rfl rfl (fun f hf j hj => (g1 _ _ (by omega)).trans (hO f hf j hj)) (fun z => absurd z (Nat.lt_irrefl _)) (fun z => absurd z (Nat.lt_irrefl _)) (fun _ => K M g' (fun a c ha hc h => g2' a c ha hc (by omega)))
  | succ d ih =>
    intro j M hj g g2'
    have hjn : j < n := by omega
    have g' := g
    obtain ⟨g1, g2, g3, g4, g5, g6⟩ := g
    refine S18_107 hκ hb hi (by omega) hn g2 g3 rfl rfl rfl rfl (fun f hf j hj => (g1 _ _ (by omega)).trans (hO f hf j hj)) (fun _ hij => ?_) (fun _ h1 h2 => ?_) (fun z => absurd hjn z)
    · have hij' : i < j ∨ lp = true := hij.elim .inl (fun z => .inr z.2)
      have o1 : ∀ o x, ¬ o = 117 → dw1 M (i * 10 + j) o x = M o x := fun o x h => dw1_o (fun z => h z.1)
      refine f19 (M := dw1 M (i * 10 + j)) (L := L) hκ hb hi hjn hn (fun f hf k hk => (o1 _ _ (by omega)).trans ((g1 _ _ (by omega)).trans (hO f hf k hk))) hL (fun k hk => (o1 _ _ (by decide)).trans (g6 k hk).2.1) ?_
      refine ⟨none, _, κ, rfl, ?_⟩
      have o2 : ∀ o x, ¬ (o = 116 ∨ o = 117) → dw2 (dw1 M (i * 10 + j)) L O i j o x = M o x := fun o x h => (dw2_o (fun z => h z.1)).trans (o1 o x (fun z => h (.inr z)))
      refine S18_164 (M := dw2 (dw1 M (i * 10 + j)) L O i j) hκ hb hi (by omega) hn ((o2 _ _ (by decide)).trans g2) ((o2 _ _ (by decide)).trans g3) rfl rfl rfl rfl (fun f hf k hk => (o2 _ _ (by omega)).trans ((g1 _ _ (by omega)).trans (hO f hf k hk))) ?_
      refine RT_of (f22 (lp := lp) hκ hb hi hjn hn (fun f hf k hk => (o2 _ _ (by omega)).trans ((g1 _ _ (by omega)).trans (hO f hf k hk))) ((o2 _ _ (by decide)).trans (g6 i hi).2.2.1) ((o2 _ _ (by decide)).trans (g6 i hi).2.2.2.1) ((o2 _ _ (by decide)).trans (g6 j hjn).2.2.2.1) ((o2 _ _ (by decide)).trans (g6 i hi).2.2.2.2) ((o2 _ _ (by decide)).trans g3)) ?_
      refine ⟨none, _, κ, rfl, ?_⟩
      have o3 : ∀ o x, ¬ (o = 116 ∨ o = 117) → dw3 (dw2 (dw1 M (i * 10 + j)) L O i j) n lp O i j o x = M o x := fun o x h => (dw3_o (fun z => h z.1)).trans (o2 o x h)
      refine S18_172 (M := dw3 (dw2 (dw1 M (i * 10 + j)) L O i j) n lp O i j) hκ hb hi (by omega) hn ((o3 _ _ (by decide)).trans g2) ((o3 _ _ (by decide)).trans g3) rfl rfl rfl rfl (fun f hf k hk => (o3 _ _ (by omega)).trans ((g1 _ _ (by omega)).trans (hO f hf k hk))) ?_
      refine ih (j + 1) _ (by omega) (G1_eq g' o3) (fun a c ha hc h => ?_)
      by_cases q : a = i ∧ c = j
      · obtain ⟨rfl, rfl⟩ := q
        exact ⟨dw_u hij', dw_m hij'⟩
      · have hh := g2' a c ha hc (by omega)
        have hx : ∀ o x, x = a * 10 + c ∨ x = 100 + (a * 10 + c) → dw3 (dw2 (dw1 M (i * 10 + j)) L O i j) n lp O i j o x = M o x := fun o x hx => by
          rw [dw3_o (by omega), dw2_o (by omega), dw1_o (by omega)]
        exact ⟨Ed_eq (hx _ _ (.inl rfl)) (hx _ _ (.inl rfl)) hh.1, Ed_eq (hx _ _ (.inr rfl)) (hx _ _ (.inr rfl)) hh.2⟩
    · have hij' : ¬ (i < j ∨ lp = true) := fun z => z.elim h1 h2
      have o1 : ∀ o x, ¬ (o = 116 ∨ o = 117) → dw1 M (i * 10 + j) o x = M o x := fun o x h => dw1_o (fun z => h (.inr z.1))
      refine ih (j + 1) (dw1 M (i * 10 + j)) (by omega) (G1_eq g' o1) (fun a c ha hc h => ?_)
      by_cases q : a = i ∧ c = j
      · obtain ⟨rfl, rfl⟩ := q
        rw [uE_no hij', mE_no hij']
        unfold dw1
        exact ⟨(stM_n (by omega)).trans stM_s, stM_s⟩
      · have hh := g2' a c ha hc (by omega)
        have hx : ∀ o x, x = a * 10 + c ∨ x = 100 + (a * 10 + c) → dw1 M (i * 10 + j) o x = M o x := fun o x hx => dw1_o (by omega)
        exact ⟨Ed_eq (hx _ _ (.inl rfl)) (hx _ _ (.inl rfl)) hh.1, Ed_eq (hx _ _ (.inr rfl)) (hx _ _ (.inr rfl)) hh.2⟩
theorem l18b (hκ : Rd κ) {b n : Nat} {O : Op} {L : Nat → Int32} {lp : Bool} (hb : isBl b) (hn : n ≤ 10) (hO : ∀ f, f < 6 → ∀ j, j < n → M0 (b + 1 + f) j = O f j) (hL : Lok L n)
    (K : ∀ M, G1 M0 M n lp O L n → G2 M n lp O L n 0 → Q (.inl none, M, κ)) :
    ∀ d i M, i + d = n → G1 M0 M n lp O L n → G2 M n lp O L i 0 → RT 18 (96, [.ref 113, .ref b, UU, .int (nI i), UU], [], M, κ) Q := by
  have hr := bl_rng hb
  intro d
  induction d with
  | zero =>
    intro i M hi g g2'
    have e : i = n := by omega
    subst e
    have g' := g
    obtain ⟨g1, g2, g3, g4, g5, g6⟩ := g
    exact S18_96 (j := 0) hκ hb (Nat.le_refl _) (by omega) hn g2 g3 rfl rfl rfl rfl (fun f hf j hj => (g1 _ _ (by omega)).trans (hO f hf j hj)) (fun z => absurd z (Nat.lt_irrefl _)) (fun _ => K M g' g2')
  | succ d ih =>
    intro i M hi g g2'
    have hin : i < n := by omega
    have g' := g
    obtain ⟨g1, g2, g3, g4, g5, g6⟩ := g
    refine S18_96 (j := 0) hκ hb (by omega) (by omega) hn g2 g3 rfl rfl rfl rfl (fun f hf j hj => (g1 _ _ (by omega)).trans (hO f hf j hj)) (fun _ => ?_) (fun z => absurd hin z)
    exact l18c hκ hb hn hO hL hin (fun M a c => ih (i + 1) M (by omega) a c) n 0 M (by omega) g' g2'
theorem f18 (hκ : Rd κ) {b n : Nat} {O : Op} {L : Nat → Int32} {pl mu di lo e : Int32} (hb : isBl b) (hn : n ≤ 10) (hc : M0 b 4 = nI n) (he : M0 b 0 = e) (hpl : M0 1 2 = pl) (hmu : M0 1 3 = mu) (hdi : M0 1 4 = di) (hlo : M0 1 5 = lo) (hO : ∀ f, f < 6 → ∀ j, j < n → M0 (b + 1 + f) j = O f j) (hl : ∀ k, k < n → latF pl mu di lo (O 0 k) = L k) (hL : Lok L n)
    (K : ∀ M, G1 M0 M n (decide (e = 3)) O L n → G2 M n (decide (e = 3)) O L n 0 → Q (.inl none, M, κ)) : RT 18 (0, entL 18 [.ref 113, .ref b, .ref 1], [], M0, κ) Q := by
  refine S18_0 hκ hb hc he ?_
  refine l18a (lp := decide (e = 3)) hκ hb hn hc hpl hmu hdi hlo hO hl (fun M g => l18b hκ hb hn hO hL K n 0 M (by omega) g (fun a c ha hc h => by omega)) n 0 _ (by omega) ?_
  refine ⟨fun o j ho => ?_, ?_, ?_, ?_, ?_, fun k hk => absurd hk (Nat.not_lt_zero _)⟩
  · rw [stM_n (by omega), stM_n (by omega), stM_n (by omega), stM_n (by omega)]
  · exact (stM_j (by decide)).trans ((stM_j (by decide)).trans ((stM_j (by decide)).trans stM_s))
  · refine (stM_j (by decide)).trans ((stM_j (by decide)).trans (stM_s.trans ?_))
    by_cases q : e = 3 <;> simp [q]
  · exact (stM_j (by decide)).trans stM_s
  · exact stM_s
end P_26_draw
