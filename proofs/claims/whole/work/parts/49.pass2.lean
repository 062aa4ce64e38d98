/-! RUN: the passes of a block, on both sides; begin, turns -/
section P_49_pass2
theorem i_50_0 : ins 50 0 = some (.aload_n 0, 1, 0, 0, 0, 0) := rfl
theorem i_50_1 : ins 50 1 = some (.iconst 0, 2, 0, 0, 0, 0) := rfl
theorem i_50_2 : ins 50 2 = some (.putfield 9, 5, 4, 0, 0, 0) := rfl
theorem i_50_5 : ins 50 5 = some (.aload_n 0, 6, 0, 0, 0, 0) := rfl
theorem i_50_6 : ins 50 6 = some (.iconst 0, 7, 0, 0, 0, 0) := rfl
theorem i_50_7 : ins 50 7 = some (.putfield 15, 10, 4, 1, 0, 0) := rfl
theorem i_50_10 : ins 50 10 = some (.aload_n 0, 11, 0, 0, 0, 0) := rfl
theorem i_50_11 : ins 50 11 = some (.iconst 0, 12, 0, 0, 0, 0) := rfl
theorem i_50_12 : ins 50 12 = some (.putfield 18, 15, 4, 2, 0, 0) := rfl
theorem i_50_15 : ins 50 15 = some (.iconst 0, 16, 0, 0, 0, 0) := rfl
theorem i_50_16 : ins 50 16 = some (.istore_n 2, 17, 2, 0, 0, 0) := rfl
theorem S50_0 {Q : Ou → Prop} {M : Mem} {κ : Kp} (hκ : Rd κ) {oo o2 : Nat} (ho : isOc oo) (ho2 : isOc o2) 
    (k1 : RT 50 (17, [.ref oo, .ref (o2 + 3), .int (nI 0)], [], (stM (stM (stM M oo 0 0) oo 1 0) oo 2 0), κ) Q)
    : RT 50 (0, [.ref oo, .ref (o2 + 3), UU], [], M, κ) Q := by
  refine w_load i_50_0 rfl rfl ?_
  refine w_push i_50_1 rfl ?_
  refine w_putI i_50_2 hκ (oc_ob ho) rfl (fun c => absurd c (by decide)) ?_
  refine w_load i_50_5 rfl rfl ?_
  refine w_push i_50_6 rfl ?_
  refine w_putI i_50_7 hκ (oc_ob ho) rfl (fun c => absurd c (by decide)) ?_
  refine w_load i_50_10 rfl rfl ?_
  refine w_push i_50_11 rfl ?_
  refine w_putI i_50_12 hκ (oc_ob ho) rfl (fun _ => rfl) ?_
  refine w_push i_50_15 rfl ?_
  refine w_store (l1 := [.ref oo, .ref (o2 + 3), .int 0]) i_50_16 rfl (Nat.le_of_ble_eq_true rfl) rfl ?_
  exact (k1)
theorem i_50_17 : ins 50 17 = some (.iload_n 2, 18, 2, 0, 0, 0) := rfl
theorem i_50_18 : ins 50 18 = some (.bipush 12, 20, 0, 0, 0, 12) := rfl
theorem i_50_20 : ins 50 20 = some (.if_icmp .ge 16, 23, 36, 0, 0, 0) := rfl
theorem i_50_23 : ins 50 23 = some (.aload_n 0, 24, 0, 0, 0, 0) := rfl
theorem i_50_24 : ins 50 24 = some (.getfield 26, 27, 4, 4, 0, 0) := rfl
theorem i_50_27 : ins 50 27 = some (.iload_n 2, 28, 2, 0, 0, 0) := rfl
theorem i_50_28 : ins 50 28 = some (.iconst 0, 29, 0, 0, 0, 0) := rfl
theorem i_50_29 : ins 50 29 = some (.iastore, 30, 0, 0, 0, 0) := rfl
theorem i_50_30 : ins 50 30 = some (.iinc 2 1, 33, 2, 0, 0, 1) := rfl
theorem i_50_33 : ins 50 33 = some (.goto (-16), 36, 17, 0, 0, 0) := rfl
theorem i_50_36 : ins 50 36 = some (.iconst 0, 37, 0, 0, 0, 0) := rfl
theorem i_50_37 : ins 50 37 = some (.istore_n 2, 38, 2, 0, 0, 0) := rfl
theorem S50_17 {Q : Ou → Prop} {M : Mem} {κ : Kp} (hκ : Rd κ) {oo o2 k : Nat} (ho : isOc oo) (ho2 : isOc o2) (hk : k ≤ 12) 
    (k1 : k < 12 → RT 50 (17, [.ref oo, .ref (o2 + 3), .int (nI (k + 1))], [], (stM M (oo + 2) k 0), κ) Q)
    (k2 : ¬ (k < 12) → RT 50 (38, [.ref oo, .ref (o2 + 3), .int (nI 0)], [], M, κ) Q)
    : RT 50 (17, [.ref oo, .ref (o2 + 3), .int (nI k)], [], M, κ) Q := by
  refine w_load i_50_17 rfl rfl ?_
  refine w_push i_50_18 rfl ?_
  refine w_if2n (k < 12) i_50_20 (cN_ge (a := k) (b := 12) (by omega) (by omega)) ?_ ?_
  · intro h1
    refine w_load i_50_23 rfl rfl ?_
    refine w_getR (oo + 2) i_50_24 hκ (oc_ob ho) rfl rfl ?_
    refine w_load i_50_27 rfl rfl ?_
    refine w_push i_50_28 rfl ?_
    refine w_iastN (e := k) i_50_29 hκ (oc_ar2 ho) (by omega) (by decide) ?_
    refine w_iincN (n := k) (l1 := [.ref oo, .ref (o2 + 3), .int (nI (k + 1))]) 1 i_50_30 rfl rfl ?_
    refine w_goto i_50_33 ?_
    exact (k1 h1)
  · intro h2
    refine w_push i_50_36 rfl ?_
    refine w_store (l1 := [.ref oo, .ref (o2 + 3), .int 0]) i_50_37 rfl (Nat.le_of_ble_eq_true rfl) rfl ?_
    exact (k2 h2)
theorem i_50_38 : ins 50 38 = some (.iload_n 2, 39, 2, 0, 0, 0) := rfl
theorem i_50_39 : ins 50 39 = some (.bipush 64, 41, 0, 0, 0, 64) := rfl
theorem i_50_41 : ins 50 41 = some (.if_icmp .ge 24, 44, 65, 0, 0, 0) := rfl
theorem i_50_44 : ins 50 44 = some (.iload_n 2, 45, 2, 0, 0, 0) := rfl
theorem i_50_45 : ins 50 45 = some (.aload_n 1, 46, 1, 0, 0, 0) := rfl
theorem i_50_46 : ins 50 46 = some (.arraylength, 47, 0, 0, 0, 0) := rfl
theorem i_50_47 : ins 50 47 = some (.if_icmp .ge 18, 50, 65, 0, 0, 0) := rfl
theorem i_50_50 : ins 50 50 = some (.aload_n 0, 51, 0, 0, 0, 0) := rfl
theorem i_50_51 : ins 50 51 = some (.getfield 29, 54, 4, 5, 0, 0) := rfl
theorem i_50_54 : ins 50 54 = some (.iload_n 2, 55, 2, 0, 0, 0) := rfl
theorem i_50_55 : ins 50 55 = some (.aload_n 1, 56, 1, 0, 0, 0) := rfl
theorem i_50_56 : ins 50 56 = some (.iload_n 2, 57, 2, 0, 0, 0) := rfl
theorem i_50_57 : ins 50 57 = some (.iaload, 58, 0, 0, 0, 0) := rfl
theorem i_50_58 : ins 50 58 = some (.iastore, 59, 0, 0, 0, 0) := rfl
theorem i_50_59 : ins 50 59 = some (.iinc 2 1, 62, 2, 0, 0, 1) := rfl
theorem i_50_62 : ins 50 62 = some (.goto (-24), 65, 38, 0, 0, 0) := rfl
theorem i_50_65 : ins 50 65 = some (.return_, 66, 0, 0, 0, 0) := rfl
theorem S50_38 {Q : Ou → Prop} {M : Mem} {κ : Kp} (hκ : Rd κ) {oo o2 k : Nat} (ho : isOc oo) (ho2 : isOc o2) (hk : k ≤ 64) 
    (k1 : (((k < 64) ∧ (¬ (k < 64))) ∨ (¬ (k < 64))) → Q (.inl none, M, κ))
    (k2 : k < 64 → k < 64 → RT 50 (38, [.ref oo, .ref (o2 + 3), .int (nI (k + 1))], [], (stM M (oo + 3) k (M (o2 + 3) k)), κ) Q)
    : RT 50 (38, [.ref oo, .ref (o2 + 3), .int (nI k)], [], M, κ) Q := by
  refine w_load i_50_38 rfl rfl ?_
  refine w_push i_50_39 rfl ?_
  have K1 : (((k < 64) ∧ (¬ (k < 64))) ∨ (¬ (k < 64))) → RT 50 (65, [.ref oo, .ref (o2 + 3), .int (nI k)], [], M, κ) Q := by
    intro h2
    exact w_vret i_50_65 rfl (k1 h2)
  refine w_if2n (k < 64) i_50_41 (cN_ge (a := k) (b := 64) (by omega) (by omega)) ?_ ?_
  · intro h3
    refine w_load i_50_44 rfl rfl ?_
    refine w_load i_50_45 rfl rfl ?_
    refine w_alen i_50_46 hκ (oc_ar3 ho2) ?_
    refine w_if2n (k < 64) i_50_47 (cN_ge (a := k) (b := 64) (by omega) (by omega)) ?_ ?_
    · intro h4
      refine w_load i_50_50 rfl rfl ?_
      refine w_getR (oo + 3) i_50_51 hκ (oc_ob ho) rfl rfl ?_
      refine w_load i_50_54 rfl rfl ?_
      refine w_load i_50_55 rfl rfl ?_
      refine w_load i_50_56 rfl rfl ?_
      refine w_ialdN (e := k) (v := (M (o2 + 3) k)) i_50_57 hκ (oc_ar3 ho2) (by omega) (by decide) (rfl) ?_
      refine w_iastN (e := k) i_50_58 hκ (oc_ar3 ho) (by omega) (by decide) ?_
      refine w_iincN (n := k) (l1 := [.ref oo, .ref (o2 + 3), .int (nI (k + 1))]) 1 i_50_59 rfl rfl ?_
      refine w_goto i_50_62 ?_
      exact (k2 h3 h4)
    · intro h5
      exact (by first | exact (K1 (.inl ⟨h3, h5⟩)) | (have K9 := K1 (.inl ⟨h3, h5⟩); simp only [↓if_pos h3, ↓if_neg h5] at K9 ⊢; exact (K9)))
  · intro h6
    exact (by first | exact (K1 (.inr h6)) | (have K9 := K1 (.inr h6); simp only [↓if_neg h6] at K9 ⊢; exact (K9)))
theorem i_51_0 : ins 51 0 = some (.iload_n 1, 1, 1, 0, 0, 0) := rfl
theorem i_51_1 : ins 51 1 = some (.iconst 1, 2, 0, 0, 0, 1) := rfl
theorem i_51_2 : ins 51 2 = some (.invokestatic 32, 5, 164, 1, 2, 0) := rfl
theorem i_51_5 : ins 51 5 = some (.istore_n 2, 6, 2, 0, 0, 0) := rfl
theorem i_51_6 : ins 51 6 = some (.iload_n 2, 7, 2, 0, 0, 0) := rfl
theorem i_51_7 : ins 51 7 = some (.bipush 100, 9, 0, 0, 0, 100) := rfl
theorem i_51_9 : ins 51 9 = some (.aload_n 0, 10, 0, 0, 0, 0) := rfl
theorem i_51_10 : ins 51 10 = some (.getfield 15, 13, 4, 1, 0, 0) := rfl
theorem i_51_13 : ins 51 13 = some (.isub, 14, 0, 0, 0, 0) := rfl
theorem i_51_14 : ins 51 14 = some (.if_icmp .le 5, 17, 19, 0, 0, 0) := rfl
theorem i_51_17 : ins 51 17 = some (.iconst 0, 18, 0, 0, 0, 0) := rfl
theorem i_51_18 : ins 51 18 = some (.ireturn, 19, 0, 0, 0, 0) := rfl
theorem i_51_19 : ins 51 19 = some (.aload_n 0, 20, 0, 0, 0, 0) := rfl
theorem i_51_20 : ins 51 20 = some (.dup, 21, 0, 0, 0, 0) := rfl
theorem i_51_21 : ins 51 21 = some (.getfield 15, 24, 4, 1, 0, 0) := rfl
theorem i_51_24 : ins 51 24 = some (.iload_n 2, 25, 2, 0, 0, 0) := rfl
theorem i_51_25 : ins 51 25 = some (.iadd, 26, 0, 0, 0, 0) := rfl
theorem i_51_26 : ins 51 26 = some (.putfield 15, 29, 4, 1, 0, 0) := rfl
theorem i_51_29 : ins 51 29 = some (.iconst 1, 30, 0, 0, 0, 1) := rfl
theorem i_51_30 : ins 51 30 = some (.ireturn, 31, 0, 0, 0, 0) := rfl
theorem S51_0 {Q : Ou → Prop} {M : Mem} {κ : Kp} (hκ : Rd κ) {oo tu : Nat} (ho : isOc oo) (htu : M oo 1 = nI tu) {ti : Int32}
    (k1 : (100 - (nI tu)) < (mx ti 1) → Q (.inl (some (.int 0)), M, κ))
    (k2 : ¬ ((100 - (nI tu)) < (mx ti 1)) → Q (.inl (some (.int 1)), (stM M oo 1 ((nI tu) + (mx ti 1))), κ))
    : RT 51 (0, [.ref oo, .int ti, UU], [], M, κ) Q := by
  refine w_load i_51_0 rfl rfl ?_
  refine w_push i_51_1 rfl ?_
  refine w_mmax i_51_2 rfl (by decide) (Nat.le_of_ble_eq_true rfl) ?_
  refine w_store (l1 := [.ref oo, .int ti, .int (mx ti 1)]) i_51_5 rfl (Nat.le_of_ble_eq_true rfl) rfl ?_
  refine w_load i_51_6 rfl rfl ?_
  refine w_push i_51_7 rfl ?_
  refine w_load i_51_9 rfl rfl ?_
  refine w_getI (v := (nI tu)) i_51_10 hκ (oc_ob ho) rfl (htu) ?_
  refine w_bin (w := (100 - (nI tu))) i_51_13 rfl rfl ?_
  refine w_if2n ((100 - (nI tu)) < (mx ti 1)) i_51_14 cI_le ?_ ?_
  · intro h1
    refine w_push i_51_17 rfl ?_
    exact w_iret i_51_18 (.inr ⟨rfl, rfl⟩) (k1 h1)
  · intro h2
    refine w_load i_51_19 rfl rfl ?_
    refine w_dup i_51_20 rfl ?_
    refine w_getI (v := (nI tu)) i_51_21 hκ (oc_ob ho) rfl (htu) ?_
    refine w_load i_51_24 rfl rfl ?_
    refine w_bin (w := ((nI tu) + (mx ti 1))) i_51_25 rfl rfl ?_
    refine w_putI i_51_26 hκ (oc_ob ho) rfl (fun c => absurd c (by decide)) ?_
    refine w_push i_51_29 rfl ?_
    exact w_iret i_51_30 (.inr ⟨rfl, rfl⟩) (k2 h2)
variable {Q : Ou → Prop} {M M0 : Mem} {κ : Kp}
def frT (o : Nat) (M0 M : Mem) : Prop := ∀ x j, ¬ (x = o ∧ (j = 0 ∨ j = 2)) → ¬ (o + 1 ≤ x ∧ x ≤ o + 3) → M x j = M0 x j
section PS
variable {e T : Int32} {n p x b o : Nat} {L : Nat → Int32} {q : Pq} {O : Op} {r : Rs}
def BI (M : Mem) (e : Int32) (n : Nat) (L : Nat → Int32) (O : Op) (b p o : Nat) (q : Pq) : Prop := M b 4 = nI n ∧ (∀ f, f < 6 → ∀ j, j < n → M (b + 1 + f) j = O f j) ∧ PN M e n L p q ∧ M 0 9 = nI o
theorem pl_rg {p : Nat} (h : isPl p) : 19 ≤ p ∧ p + 3 ≤ 112 := by
  obtain ⟨x, h1, h2⟩ := h
  omega
theorem bl_rg {b : Nat} (h : isBl b) : 5 ≤ b ∧ b + 6 ≤ 108 := by
  obtain ⟨x, h1, h2⟩ := h
  omega
theorem PN_fr {M' : Mem} (hp : isPl p) (hf : ∀ x j, 19 ≤ x → x ≤ 112 → M' x j = M x j) (h : PN M e n L p q) : PN M' e n L p q := by
  have hr := pl_rg hp
  obtain ⟨h0, h2, h3, h4, hb, h5, h6, h7, h8, h9⟩ := h
  refine ⟨(hf _ _ (by omega) (by omega)).trans h0, (hf _ _ (by omega) (by omega)).trans h2, (hf _ _ (by omega) (by omega)).trans h3, (hf _ _ (by omega) (by omega)).trans h4, hb, fun k hk => ?_, fun hi k hk => ?_, h7, h8, h9⟩
  · rw [hf _ _ (by omega) (by omega)]
    exact h5 k hk
  · rw [hf _ _ (by omega) (by omega)]
    exact h6 hi k hk
theorem BI_fr {M' : Mem} (hb : isBl b) (hp : isPl p) (hf : ∀ x j, x ≤ 112 → M' x j = M x j) (h : BI M e n L O b p o q) : BI M' e n L O b p o q := by
  have hr := bl_rg hb
  obtain ⟨h1, h2, h3, h4⟩ := h
  refine ⟨(hf _ _ (by omega)).trans h1, fun f hf6 j hj => (hf _ _ (by omega)).trans (h2 f hf6 j hj), PN_fr hp (fun x j _ h => hf x j h) h3, (hf _ _ (by omega)).trans h4⟩
theorem frO_low {M' : Mem} (ho : isOc o) (h : frO o M M') : ∀ x j, x ≤ 112 → M' x j = M x j := fun x j hx => by
  have := oc_rng ho
  exact h x j (fun z => by omega) (by omega)
theorem frT_of {M' : Mem} (h : frO o M M') : frT o M M' := fun x j h1 h2 => h x j (fun z => h1 ⟨z.1, .inl z.2⟩) h2
theorem frT_tr {M1 M' : Mem} (h : frO o M M1) (h' : frT o M1 M') : frT o M M' := fun x j h1 h2 => (h' x j h1 h2).trans (frT_of h x j h1 h2)
theorem frO_tr {M1 M' : Mem} (h : frO o M M1) (h' : frO o M1 M') : frO o M M' := fun x j h1 h2 => (h' x j h1 h2).trans (h x j h1 h2)
theorem RC_st2 (h : RC M o r) : RC (stM M o 2 1) o r := by
  obtain ⟨h1, h2, h3, h4⟩ := h
  exact ⟨(stM_j (by decide)).trans h1, fun i a b => (stM_o (by omega)).trans (h2 i a b), fun i a => (stM_o (by omega)).trans (h3 i a), fun i a => (stM_o (by omega)).trans (h4 i a)⟩
theorem i92 (hκ : Rd κ) (hb : isBl b) (hp : isPl p) (ho : isOc o) (hn : n ≤ 10) (hOk : Ook O n) {pa : Nat} (hpa : pa ≤ 100) : ∀ d j (M : Mem) (r : Rs), j + d = n → BI M e n L O b p o q → RC M o r → M o 2 = 0 → r.2.2.1 + d ≤ 5000 →
    (KA : ∀ k r', psS O d j r = (some k, r') → ∀ M', frT o M M' → RC M' o r' → M' o 2 = 1 → Q (.inl (some (.int (nI (cuN q pa k)))), M', κ)) →
    (KB : ∀ r', psS O d j r = (none, r') → ∀ M', frO o M M' → RC M' o r' → RT 92 (3, [.ref 0, .ref b, .ref p, .int T, .int (nI (pa + 1)), UU], [], M', κ) Q) →
    RT 92 (12, [.ref 0, .ref b, .ref p, .int T, .int (nI pa), .int (nI j)], [], M, κ) Q := fun d => by
  induction d with
  | zero =>
    intro j M r hj hB hR h2 hoc KA KB
    exact S92_12 hκ hb hp ho (by omega) hn hB.1 hB.2.2.2 (by omega) (fun z => absurd z (by omega)) (fun _ => KB r rfl M (fun _ _ _ _ => rfl) hR)
  | succ d ih =>
    intro j M r hj hB hR h2 hoc KA KB
    refine S92_12 hκ hb hp ho (by omega) hn hB.1 hB.2.2.2 (by omega) (fun _ => ?_) (fun z => absurd (by omega) z)
    refine f52 hκ hb ho (by omega) hn hB.2.1 hOk hR (by omega) (fun e0 => ?_) (fun r' e1 M' hf hR' => ?_)
    · refine ⟨_, _, _, rfl, ?_⟩
      have hB' : BI (stM M o 2 1) e n L O b p o q := BI_fr hb hp (fun x j hx => stM_o (by have := oc_rng ho; omega)) hB
      refine S92_31 hκ hb hp ho hB'.2.2.2 (by omega) (by omega) (fun z => absurd (stM_s.symm.trans z) (by decide)) (fun _ => ?_)
      refine ⟨_, c60 hκ hp hn hB'.2.2.1 hpa (by omega), _, _, _, rfl, ?_⟩
      refine w_weak (lle_u (lle_u (lle_u (lle_u (lle_u (lle_u lle_n)))))) (S92_49 hκ (KA j r ?_ _ ?_ (RC_st2 hR) stM_s))
      · rw [psS, e0]
      · intro x j h1 h2
        by_cases hx : x = o
        · rw [hx]
          exact stM_j (fun z => h1 ⟨hx, .inr z⟩)
        · exact stM_o hx
    · refine ⟨_, _, _, rfl, ?_⟩
      have hB' := BI_fr hb hp (frO_low ho hf) hB
      have h2' : M' o 2 = 0 := (hf o 2 (fun z => absurd z.2 (by decide)) (by omega)).trans h2
      have hx := opS_oc e1
      have eP : psS O (d + 1) j r = psS O d (j + 1) r' := by rw [psS, e1]
      refine S92_31 hκ hb hp ho hB'.2.2.2 (by omega) (by omega) (fun _ => ?_) (fun z => absurd h2' z)
      exact ih (j + 1) M' r' (by omega) hB' hR' h2' (by omega) (fun k r2 q2 M2 hf2 hR2 h22 => KA k r2 (eP.trans q2) M2 (frT_tr hf hf2) hR2 h22) (fun r2 q2 M2 hf2 hR2 => KB r2 (eP.trans q2) M2 (frO_tr hf hf2) hR2)
theorem j92 (hκ : Rd κ) (hb : isBl b) (hp : isPl p) (ho : isOc o) (hn : n ≤ 10) (hOk : Ook O n) {tn : Nat} (ht : tn ≤ 100) (hT : (T < 1 ∧ tn = 0) ∨ T = nI tn) (hT0 : tn = 0 → T = nI 0) : ∀ t pa (M : Mem) (r : Rs), pa + t = tn → BI M e n L O b p o q → RC M o r → M o 2 = 0 → r.2.2.1 + 10 * t ≤ 4000 →
    (KA : ∀ pa' k r', ptS O n t pa r = (some (pa', k), r') → ∀ M', frT o M M' → RC M' o r' → M' o 2 = 1 → Q (.inl (some (.int (nI (cuN q pa' k)))), M', κ)) →
    (KB : ∀ r', ptS O n t pa r = (none, r') → ∀ M', frO o M M' → RC M' o r' → Q (.inl (some (.int (nI (coN q tn)))), M', κ)) →
    RT 92 (3, [.ref 0, .ref b, .ref p, .int T, .int (nI pa), UU], [], M, κ) Q := fun t => by
  have eT : T = nI tn := by
    rcases hT with h | h
    · rw [hT0 h.2, h.2]
    · exact h
  have c1 : ∀ pa, pa ≤ 100 → (nI pa < T ↔ pa < tn) := fun pa h => by rw [eT, nI_ltI (by omega) (by omega)]
  induction t with
  | zero =>
    intro pa M r hj hB hR h2 hoc KA KB
    refine S92_3 hκ hb hp (by omega) (fun z => absurd ((c1 pa (by omega)).mp z) (by omega)) (fun _ => ?_)
    rw [eT]
    exact ⟨_, c59 hκ hp hB.2.2.1 ht, _, _, _, rfl, w_weak (lle_u (lle_u (lle_u (lle_u (lle_u (lle_u lle_n)))))) (S92_67 hκ (KB r rfl M (fun _ _ _ _ => rfl) hR))⟩
  | succ t ih =>
    intro pa M r hj hB hR h2 hoc KA KB
    refine S92_3 hκ hb hp (by omega) (fun _ => ?_) (fun z => absurd ((c1 pa (by omega)).mpr (by omega)) z)
    have hoc' := (psS_oc (O := O) n 0 r).1
    refine i92 hκ hb hp ho hn hOk (by omega) n 0 M r (by omega) hB hR h2 (by omega) (fun k r' e1 M' hf hR' h2' => ?_) (fun r' e1 M' hf hR' => ?_)
    · exact KA pa k r' (by rw [ptS, e1]) M' hf hR' h2'
    · have hB' := BI_fr hb hp (frO_low ho hf) hB
      have h2' : M' o 2 = 0 := (hf o 2 (fun z => absurd z.2 (by decide)) (by omega)).trans h2
      have eP : ptS O n (t + 1) pa r = ptS O n t (pa + 1) r' := by rw [ptS, e1]
      rw [e1] at hoc'
      refine ih (pa + 1) M' r' (by omega) hB' hR' h2' ?_ (fun a k r2 q2 M2 hf2 hR2 h22 => KA a k r2 (eP.trans q2) M2 (frT_tr hf hf2) hR2 h22) (fun r2 q2 M2 hf2 hR2 => KB r2 (eP.trans q2) M2 (frO_tr hf hf2) hR2)
      have : r'.2.2.1 ≤ r.2.2.1 + n := hoc'
      omega
/-- a block is done, the class -/
theorem f92 (hκ : Rd κ) (hb : isBl b) (hp : isPl p) (ho : isOc o) (hn : n ≤ 10) (hOk : Ook O n) {tn : Nat} (ht : tn ≤ 100) (hB : BI M e n L O b p o q) (hR : RC M o r) (h2 : M o 2 = 0) (hoc : r.2.2.1 + 10 * tn ≤ 4000)
    (KA : ∀ pa k r', ptS O n tn 0 r = (some (pa, k), r') → ∀ M', frT o M M' → RC M' o r' → M' o 2 = 1 → Q (.inl (some (.int (nI (cuN q pa k)))), M', κ))
    (KB : ∀ r', ptS O n tn 0 r = (none, r') → ∀ M', frO o M M' → RC M' o r' → Q (.inl (some (.int (nI (coN q tn)))), M', κ)) : RT 92 (0, entL 92 [.ref 0, .ref b, .ref p, .int (nI tn)], [], M, κ) Q := by
  refine S92_0 hκ hb hp ?_
  exact j92 (T := nI tn) hκ hb hp ho hn hOk ht (.inr rfl) (fun h => by rw [h]) tn 0 M r (by omega) hB hR h2 hoc KA KB
theorem frR_tr {M1 M' : Mem} (h : frR M M1) (h' : frR M1 M') : frR M M' := fun x j h1 h2 => (h' x j h1 h2).trans (h x j h1 h2)
theorem i140 (hκ : Rd κ) (hx : x < 6) (hn : n ≤ 10) (hOk : Ook O n) : ∀ d j (M : Mem) (r : Rs), j + d = n → M 151 x = nI n → (∀ f, f < 6 → ∀ j, j < n → M (152 + f) (10 * x + j) = O f j) → RMo M r → r.2.2.1 + d ≤ 5000 →
    (KA : ∀ k r', psS O d j r = (some k, r') → ∀ M', frR M M' → RMo M' r' → Q (.inl (some (.int (nI (10 * x + k)))), M', κ)) →
    (KB : ∀ r', psS O d j r = (none, r') → ∀ M', frR M M' → RMo M' r' → Q (.inl (some (.int (-1))), M', κ)) →
    RT 140 (5, [.ref 134, .int (nI x), .int (nI ((10 * x) + j))], [], M, κ) Q := fun d => by
  induction d with
  | zero =>
    intro j M r hj hc hO hR hoc KA KB
    exact S140_5 hκ hx (by omega) hn hc (fun z => absurd z (by omega)) (fun _ => KB r rfl M (fun _ _ _ _ => rfl) hR)
  | succ d ih =>
    intro j M r hj hc hO hR hoc KA KB
    refine S140_5 hκ hx (by omega) hn hc (fun _ => ?_) (fun z => absurd (by omega) z)
    refine f139 hκ hx (by omega) hn hO hOk hR (by omega) (fun e0 => ?_) (fun r' e1 M' hf hR' => ?_)
    · refine ⟨_, _, _, rfl, ?_⟩
      exact S140_25 (bb := false) hκ hx (by omega) (fun z => by cases z) (fun _ => KA j r (by rw [psS, e0]) M (fun _ _ _ _ => rfl) hR)
    · refine ⟨_, _, _, rfl, ?_⟩
      have hx' := opS_oc e1
      have eP : psS O (d + 1) j r = psS O d (j + 1) r' := by rw [psS, e1]
      refine S140_25 (bb := true) hκ hx (by omega) (fun _ => ?_) (fun z => absurd rfl z)
      exact ih (j + 1) M' r' (by omega) ((hf 151 x (by omega) (by omega)).trans hc) (fun f hf6 j hj => (hf _ _ (by omega) (by omega)).trans (hO f hf6 j hj)) hR' (by omega) (fun k r2 q2 M2 hf2 hR2 => KA k r2 (eP.trans q2) M2 (frR_tr hf hf2) hR2) (fun r2 q2 M2 hf2 hR2 => KB r2 (eP.trans q2) M2 (frR_tr hf hf2) hR2)
/-- the operations of a block once, the model -/
theorem f140 (hκ : Rd κ) (hx : x < 6) (hn : n ≤ 10) (hOk : Ook O n) (hc : M 151 x = nI n) (hO : ∀ f, f < 6 → ∀ j, j < n → M (152 + f) (10 * x + j) = O f j) (hR : RMo M r) (hoc : r.2.2.1 + n ≤ 5000)
    (KA : ∀ k r', psS O n 0 r = (some k, r') → ∀ M', frR M M' → RMo M' r' → Q (.inl (some (.int (nI (10 * x + k)))), M', κ))
    (KB : ∀ r', psS O n 0 r = (none, r') → ∀ M', frR M M' → RMo M' r' → Q (.inl (some (.int (-1))), M', κ)) : RT 140 (0, entL 140 [.ref 134, .int (nI x)], [], M, κ) Q :=
  S140_0 hκ hx (i140 hκ hx hn hOk n 0 M r (by omega) hc hO hR hoc KA KB)
end PS
section BG
variable {o o2 : Nat}
def frK (o : Nat) (M0 M : Mem) : Prop := ∀ x j, ¬ x = o → ¬ (o + 2 ≤ x ∧ x ≤ o + 3) → M x j = M0 x j
/-- begin -/
theorem f50 (hκ : Rd κ) (ho : isOc o) (ho2 : isOc o2) (hne : ¬ o = o2) (ou : Nat → Int32) (K : ∀ M', frK o M M' → RC M' o (fun _ => 0, fun i => M (o2 + 3) i, 0, ou) → M' o 1 = 0 → M' o 2 = 0 → Q (.inl none, M', κ)) : RT 50 (0, entL 50 [.ref o, .ref (o2 + 3)], [], M, κ) Q := by
  refine S50_0 hκ ho ho2 ?_
  have hd : ¬ o2 + 3 = o ∧ ¬ (o + 2 ≤ o2 + 3 ∧ o2 + 3 ≤ o + 3) := by
    rcases ho with h | h <;> rcases ho2 with h' | h' <;> omega
  refine loopI (n := 12) (fun k M1 => RT 50 (17, [.ref o, .ref (o2 + 3), .int (nI k)], [], M1, κ) Q) (fun k M1 => frK o M M1 ∧ M1 o 0 = 0 ∧ M1 o 1 = 0 ∧ M1 o 2 = 0 ∧ ∀ i, i < k → M1 (o + 2) i = 0) (fun k M1 hk hI ih => ?_) (fun M1 hI => ?_) 0 _ (Nat.zero_le _) ⟨fun x j h1 _ => (stM_o h1).trans ((stM_o h1).trans (stM_o h1)), (stM_j (by decide)).trans ((stM_j (by decide)).trans stM_s), (stM_j (by decide)).trans stM_s, stM_s, fun i hi => absurd hi (Nat.not_lt_zero i)⟩
  · refine S50_17 hκ ho ho2 (by omega) (fun _ => ih _ ?_) (fun z => absurd (by omega) z)
    obtain ⟨i1, i2, i3, i4, i5⟩ := hI
    refine ⟨fun x j h1 h2 => (stM_o (by omega)).trans (i1 x j h1 h2), (stM_o (by omega)).trans i2, (stM_o (by omega)).trans i3, (stM_o (by omega)).trans i4, fun i hi => ?_⟩
    by_cases e : i = k
    · rw [e]; exact stM_s
    · exact (stM_j e).trans (i5 i (by omega))
  · refine S50_17 hκ ho ho2 (Nat.le_refl _) (fun z => absurd z (Nat.lt_irrefl _)) (fun _ => ?_)
    obtain ⟨i1, i2, i3, i4, i5⟩ := hI
    refine loopI (n := 64) (fun k M2 => RT 50 (38, [.ref o, .ref (o2 + 3), .int (nI k)], [], M2, κ) Q) (fun k M2 => frK o M M2 ∧ M2 o 0 = 0 ∧ M2 o 1 = 0 ∧ M2 o 2 = 0 ∧ (∀ i, i < 12 → M2 (o + 2) i = 0) ∧ ∀ i, i < k → M2 (o + 3) i = M (o2 + 3) i) (fun k M2 hk hJ ih => ?_) (fun M2 hJ => ?_) 0 _ (Nat.zero_le _) ⟨i1, i2, i3, i4, i5, fun i hi => absurd hi (Nat.not_lt_zero i)⟩
    · refine S50_38 hκ ho ho2 (by omega) (fun z => absurd hk (by omega)) (fun _ _ => ih _ ?_)
      obtain ⟨j1, j2, j3, j4, j5, j6⟩ := hJ
      refine ⟨fun x j h1 h2 => (stM_o (by omega)).trans (j1 x j h1 h2), (stM_o (by omega)).trans j2, (stM_o (by omega)).trans j3, (stM_o (by omega)).trans j4, fun i hi => (stM_o (by omega)).trans (j5 i hi), fun i hi => ?_⟩
      by_cases e : i = k
      · rw [e]
        exact stM_s.trans (j1 _ _ hd.1 hd.2)
      · exact (stM_j e).trans (j6 i (by omega))
    · refine S50_38 hκ ho ho2 (Nat.le_refl _) (fun _ => ?_) (fun z _ => absurd z (Nat.lt_irrefl _))
      obtain ⟨j1, j2, j3, j4, j5, j6⟩ := hJ
      exact K M2 j1 ⟨j2, fun i _ h => absurd h (Nat.not_lt_zero i), j5, j6⟩ j3 j4
/-- turns -/
theorem f51 (hκ : Rd κ) (ho : isOc o) {tu : Nat} {T : Int32} (htu : tu ≤ 100) (h1 : M o 1 = nI tu)
    (K0 : 100 < (tu : Int) + max T.toInt 1 → Q (.inl (some (.int 0)), M, κ))
    (K1 : tu + max T.toInt.toNat 1 ≤ 100 → Q (.inl (some (.int 1)), stM M o 1 (nI (tu + max T.toInt.toNat 1)), κ)) : RT 51 (0, entL 51 [.ref o, .int T], [], M, κ) Q := by
  have hm : (mx T 1).toInt = max T.toInt 1 := by rw [mx_toInt, t1]
  have hs : ((100 : Int32) - nI tu).toInt = 100 - tu := by
    rw [l_sub (by decide) (by rw [nI_toInt (by omega)]; omega), nI_toInt (by omega)]
    rfl
  refine S51_0 hκ ho h1 (fun a => ?_) (fun a => ?_)
  · rw [ltI, hs, hm] at a
    exact K0 (by omega)
  · rw [ltI, hs, hm] at a
    have e : nI tu + mx T 1 = nI (tu + max T.toInt.toNat 1) := by
      apply Int32.toInt_inj.mp
      rw [l_add (by rw [nI_toInt (by omega)]; omega) (by omega), nI_toInt (by omega), nI_toInt (by omega), hm]
      omega
    rw [e]
    exact K1 (by omega)
end BG
end P_49_pass2
