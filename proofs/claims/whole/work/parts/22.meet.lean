/-! WHERE TWO MEET: meetingDistance and the model meeting -/
section P_22_meet
variable {Q : Ou → Prop} {M M0 : Mem} {κ : Kp}
def srch (f : Nat → Bool) : Nat → Nat → Int32
  | 0, _ => -1
  | d + 1, k => if f k = true then nI k else srch f d (k + 1)
def srN (f : Nat → Bool) : Nat → Nat → Nat
  | 0, k => k
  | d + 1, k => if f k = true then k else srN f d (k + 1)
theorem srN_ge (f : Nat → Bool) : ∀ d k, k ≤ srN f d k ∧ srN f d k ≤ k + d
  | 0, k => ⟨Nat.le_refl k, Nat.le_refl k⟩
  | d + 1, k => by
    have := srN_ge f d (k + 1)
    unfold srN
    split <;> omega
theorem srch_N (f : Nat → Bool) : ∀ d k, srch f d k = if srN f d k < k + d then nI (srN f d k) else -1
  | 0, k => by simp [srch, srN]
  | d + 1, k => by
    have := srch_N f d (k + 1)
    unfold srch srN
    split
    · rw [if_pos (by omega)]
    · rw [this, show k + 1 + d = k + (d + 1) by omega]
def mtf (O : Op) (n i j : Nat) (k : Nat) : Bool := decide ((sw O (O 2 i) i n - sw O (O 2 j) j n - nI k * amo O (O 2 i) n) &&& 63 = 0)
/-- the distance at which two accesses may meet, -1 for never -/
def mtF (O : Op) (n : Nat) (lp : Bool) (i j : Nat) : Int32 := if O 2 i = O 2 j ∧ loo O (O 2 i) n = 0 then srch (mtf O n i j) ((if lp = true then 64 else 0) + 1 - (if i < j then 0 else 1)) (if i < j then 0 else 1) else nI (if i < j then 0 else 1)
theorem i_23_0 : ins 23 0 = some (.iload_n 2, 1, 2, 0, 0, 0) := rfl
theorem i_23_1 : ins 23 1 = some (.iload_n 3, 2, 3, 0, 0, 0) := rfl
theorem i_23_2 : ins 23 2 = some (.if_icmp .ge 7, 5, 9, 0, 0, 0) := rfl
theorem i_23_5 : ins 23 5 = some (.iconst 0, 6, 0, 0, 0, 0) := rfl
theorem i_23_6 : ins 23 6 = some (.goto 4, 9, 10, 0, 0, 0) := rfl
theorem i_23_9 : ins 23 9 = some (.iconst 1, 10, 0, 0, 0, 1) := rfl
theorem i_23_10 : ins 23 10 = some (.istore 4, 12, 4, 0, 0, 0) := rfl
theorem i_23_12 : ins 23 12 = some (.aload_n 1, 13, 1, 0, 0, 0) := rfl
theorem i_23_13 : ins 23 13 = some (.getfield 111, 16, 0, 8, 0, 0) := rfl
theorem i_23_16 : ins 23 16 = some (.iload_n 2, 17, 2, 0, 0, 0) := rfl
theorem i_23_17 : ins 23 17 = some (.iaload, 18, 0, 0, 0, 0) := rfl
theorem i_23_18 : ins 23 18 = some (.aload_n 1, 19, 1, 0, 0, 0) := rfl
theorem i_23_19 : ins 23 19 = some (.getfield 111, 22, 0, 8, 0, 0) := rfl
theorem i_23_22 : ins 23 22 = some (.iload_n 3, 23, 3, 0, 0, 0) := rfl
theorem i_23_23 : ins 23 23 = some (.iaload, 24, 0, 0, 0, 0) := rfl
theorem i_23_24 : ins 23 24 = some (.if_icmp .ne 12, 27, 36, 0, 0, 0) := rfl
theorem i_23_27 : ins 23 27 = some (.aload_n 0, 28, 0, 0, 0, 0) := rfl
theorem i_23_28 : ins 23 28 = some (.getfield 42, 31, 1, 9, 0, 0) := rfl
theorem i_23_31 : ins 23 31 = some (.iload_n 2, 32, 2, 0, 0, 0) := rfl
theorem i_23_32 : ins 23 32 = some (.baload, 33, 0, 0, 0, 0) := rfl
theorem i_23_33 : ins 23 33 = some (.ifCond .eq 6, 36, 39, 0, 0, 0) := rfl
theorem i_23_36 : ins 23 36 = some (.iload 4, 38, 4, 0, 0, 0) := rfl
theorem i_23_38 : ins 23 38 = some (.ireturn, 39, 0, 0, 0, 0) := rfl
theorem i_23_39 : ins 23 39 = some (.aload_n 0, 40, 0, 0, 0, 0) := rfl
theorem i_23_40 : ins 23 40 = some (.getfield 15, 43, 1, 1, 0, 0) := rfl
theorem i_23_43 : ins 23 43 = some (.ifCond .eq 8, 46, 51, 0, 0, 0) := rfl
theorem i_23_46 : ins 23 46 = some (.bipush 64, 48, 0, 0, 0, 64) := rfl
theorem i_23_48 : ins 23 48 = some (.goto 4, 51, 52, 0, 0, 0) := rfl
theorem i_23_51 : ins 23 51 = some (.iconst 0, 52, 0, 0, 0, 0) := rfl
theorem i_23_52 : ins 23 52 = some (.istore 5, 54, 5, 0, 0, 0) := rfl
theorem i_23_54 : ins 23 54 = some (.iload 4, 56, 4, 0, 0, 0) := rfl
theorem i_23_56 : ins 23 56 = some (.istore 6, 58, 6, 0, 0, 0) := rfl
theorem i_23_58 : ins 23 58 = some (.iload 6, 60, 6, 0, 0, 0) := rfl
theorem i_23_60 : ins 23 60 = some (.iload 5, 62, 5, 0, 0, 0) := rfl
theorem i_23_62 : ins 23 62 = some (.if_icmp .gt 41, 65, 103, 0, 0, 0) := rfl
theorem i_23_65 : ins 23 65 = some (.aload_n 0, 66, 0, 0, 0, 0) := rfl
theorem i_23_66 : ins 23 66 = some (.getfield 45, 69, 1, 10, 0, 0) := rfl
theorem i_23_69 : ins 23 69 = some (.iload_n 2, 70, 2, 0, 0, 0) := rfl
theorem i_23_70 : ins 23 70 = some (.iaload, 71, 0, 0, 0, 0) := rfl
theorem i_23_71 : ins 23 71 = some (.aload_n 0, 72, 0, 0, 0, 0) := rfl
theorem i_23_72 : ins 23 72 = some (.getfield 45, 75, 1, 10, 0, 0) := rfl
theorem i_23_75 : ins 23 75 = some (.iload_n 3, 76, 3, 0, 0, 0) := rfl
theorem i_23_76 : ins 23 76 = some (.iaload, 77, 0, 0, 0, 0) := rfl
theorem i_23_77 : ins 23 77 = some (.isub, 78, 0, 0, 0, 0) := rfl
theorem i_23_78 : ins 23 78 = some (.iload 6, 80, 6, 0, 0, 0) := rfl
theorem i_23_80 : ins 23 80 = some (.aload_n 0, 81, 0, 0, 0, 0) := rfl
theorem i_23_81 : ins 23 81 = some (.getfield 48, 84, 1, 11, 0, 0) := rfl
theorem i_23_84 : ins 23 84 = some (.iload_n 2, 85, 2, 0, 0, 0) := rfl
theorem i_23_85 : ins 23 85 = some (.iaload, 86, 0, 0, 0, 0) := rfl
theorem i_23_86 : ins 23 86 = some (.imul, 87, 0, 0, 0, 0) := rfl
theorem i_23_87 : ins 23 87 = some (.isub, 88, 0, 0, 0, 0) := rfl
theorem i_23_88 : ins 23 88 = some (.invokestatic 114, 91, 84, 5, 1, 0) := rfl
theorem i_23_91 : ins 23 91 = some (.ifCond .ne 6, 94, 97, 0, 0, 0) := rfl
theorem i_23_94 : ins 23 94 = some (.iload 6, 96, 6, 0, 0, 0) := rfl
theorem i_23_96 : ins 23 96 = some (.ireturn, 97, 0, 0, 0, 0) := rfl
theorem i_23_97 : ins 23 97 = some (.iinc 6 1, 100, 6, 0, 0, 1) := rfl
theorem i_23_100 : ins 23 100 = some (.goto (-42), 103, 58, 0, 0, 0) := rfl
theorem i_23_103 : ins 23 103 = some (.iconst (-1), 104, 0, 0, 0, (-1)) := rfl
theorem i_23_104 : ins 23 104 = some (.ireturn, 105, 0, 0, 0, 0) := rfl
theorem S23_0 {Q : Ou → Prop} {M : Mem} {κ : Kp} (hκ : Rd κ) {b n i j k : Nat} {O : Op} {lp : Bool} (hb : isBl b) (hi : i < n) (hj : j < n) (hn : n ≤ 10) (hk : k ≤ 65) (hO : ∀ f, f < 6 → ∀ j, j < n → M (b + 1 + f) j = O f j) (hL : M 119 i = loo O (O 2 i) n) (hfi : M 120 i = sw O (O 2 i) i n) (hfj : M 120 j = sw O (O 2 j) j n) (hmi : M 121 i = amo O (O 2 i) n) (hlp : M 113 1 = bI lp) 
    (k1 : ((((O 2 i) = (O 2 j)) ∧ (¬ ((loo O (O 2 i) n) = 0))) ∨ (¬ ((O 2 i) = (O 2 j)))) → Q (.inl (some (.int (nI (if i < j then 0 else 1)))), M, κ))
    (k2 : (O 2 i) = (O 2 j) → (loo O (O 2 i) n) = 0 → RT 23 (58, [.ref 113, UU, .int (nI i), .int (nI j), UU, .int (nI (if lp = true then 64 else 0)), .int (nI (if i < j then 0 else 1))], [], M, κ) Q)
    : RT 23 (0, [.ref 113, .ref b, .int (nI i), .int (nI j), UU, UU, UU], [], M, κ) Q := by
  refine w_load i_23_0 rfl rfl ?_
  refine w_load i_23_1 rfl rfl ?_
  have K1 : RT 23 (10, [.ref 113, .ref b, .int (nI i), .int (nI j), UU, UU, UU], [.int (nI (if i < j then 0 else 1))], M, κ) Q := by
    refine w_store (l1 := [.ref 113, .ref b, .int (nI i), .int (nI j), .int (nI (if i < j then 0 else 1)), UU, UU]) i_23_10 rfl (Nat.le_of_ble_eq_true rfl) rfl ?_
    refine w_load i_23_12 rfl rfl ?_
    refine w_getR (b + 3) i_23_13 hκ (bl_ob hb) rfl rfl ?_
    refine w_load i_23_16 rfl rfl ?_
    refine w_ialdN (e := i) (v := (O 2 i)) i_23_17 hκ (bl_ar hb 3 (by decide)) (by omega) (by decide) (hO 2 (by decide) i (by omega)) ?_
    refine w_load i_23_18 rfl rfl ?_
    refine w_getR (b + 3) i_23_19 hκ (bl_ob hb) rfl rfl ?_
    refine w_load i_23_22 rfl rfl ?_
    refine w_ialdN (e := j) (v := (O 2 j)) i_23_23 hκ (bl_ar hb 3 (by decide)) (by omega) (by decide) (hO 2 (by decide) j (by omega)) ?_
    have K2 : ((((O 2 i) = (O 2 j)) ∧ (¬ ((loo O (O 2 i) n) = 0))) ∨ (¬ ((O 2 i) = (O 2 j)))) → RT 23 (36, [.ref 113, .ref b, .int (nI i), .int (nI j), .int (nI (if i < j then 0 else 1)), UU, UU], [], M, κ) Q := by
      intro h3
      refine w_load i_23_36 rfl rfl ?_
      exact w_iret i_23_38 (.inl rfl) (k1 h3)
    refine w_if2n ((O 2 i) = (O 2 j)) i_23_24 cI_ne ?_ ?_
    · intro h4
      refine w_load i_23_27 rfl rfl ?_
      refine w_getR 119 i_23_28 hκ (⟨rfl, by decide⟩ : isOb 113 1) rfl rfl ?_
      refine w_load i_23_31 rfl rfl ?_
      refine w_zaldN (e := i) (v := (loo O (O 2 i) n)) i_23_32 hκ (⟨rfl, rfl, by decide⟩ : isZr 119 10) (by omega) (by decide) (hL) ?_
      refine w_if0 ((loo O (O 2 i) n) = 0) i_23_33 cI0_eq ?_ ?_
      · intro h5
        refine w_load i_23_39 rfl rfl ?_
        refine w_getI (v := (bI lp)) i_23_40 hκ (⟨rfl, by decide⟩ : isOb 113 1) rfl (hlp) ?_
        have K6 : RT 23 (52, [.ref 113, .ref b, .int (nI i), .int (nI j), .int (nI (if i < j then 0 else 1)), UU, UU], [.int (nI (if lp = true then 64 else 0))], M, κ) Q := by
          refine w_store (l1 := [.ref 113, .ref b, .int (nI i), .int (nI j), .int (nI (if i < j then 0 else 1)), .int (nI (if lp = true then 64 else 0)), UU]) i_23_52 rfl (Nat.le_of_ble_eq_true rfl) rfl ?_
          refine w_load i_23_54 rfl rfl ?_
          refine w_store (l1 := [.ref 113, .ref b, .int (nI i), .int (nI j), .int (nI (if i < j then 0 else 1)), .int (nI (if lp = true then 64 else 0)), .int (nI (if i < j then 0 else 1))]) i_23_56 rfl (Nat.le_of_ble_eq_true rfl) rfl ?_
          exact w_weak (lle_s (lle_u (lle_s (lle_s (lle_u (lle_s (lle_s lle_n))))))) (k2 h4 h5)
        refine w_if0n (lp = true) i_23_43 cB_eq ?_ ?_
        · intro h7
          refine w_push i_23_46 rfl ?_
          refine w_goto i_23_48 ?_
          exact (by first | exact (K6) | (have K9 := K6; simp only [↓if_pos h7] at K9 ⊢; exact (K9)))
        · intro h8
          refine w_push i_23_51 rfl ?_
          exact (by first | exact (K6) | (have K9 := K6; simp only [↓if_neg h8] at K9 ⊢; exact (K9)))
      · intro h9
        exact (by first | exact (K2 (.inl ⟨h4, h9⟩)) | (have K9 := K2 (.inl ⟨h4, h9⟩); simp only [↓if_pos h4, ↓if_neg h9] at K9 ⊢; exact (K9)))
    · intro h10
      exact (by first | exact (K2 (.inr h10)) | (have K9 := K2 (.inr h10); simp only [↓if_neg h10] at K9 ⊢; exact (K9)))
  refine w_if2n (i < j) i_23_2 (cN_ge (a := i) (b := j) (by omega) (by omega)) ?_ ?_
  · intro h11
    refine w_push i_23_5 rfl ?_
    refine w_goto i_23_6 ?_
    exact (by first | exact (K1) | (have K9 := K1; simp only [↓if_pos h11] at K9 ⊢; exact (K9)))
  · intro h12
    refine w_push i_23_9 rfl ?_
    exact (by first | exact (K1) | (have K9 := K1; simp only [↓if_neg h12] at K9 ⊢; exact (K9)))
theorem S23_58 {Q : Ou → Prop} {M : Mem} {κ : Kp} (hκ : Rd κ) {b n i j k : Nat} {O : Op} {lp : Bool} (hb : isBl b) (hi : i < n) (hj : j < n) (hn : n ≤ 10) (hk : k ≤ 65) (hO : ∀ f, f < 6 → ∀ j, j < n → M (b + 1 + f) j = O f j) (hL : M 119 i = loo O (O 2 i) n) (hfi : M 120 i = sw O (O 2 i) i n) (hfj : M 120 j = sw O (O 2 j) j n) (hmi : M 121 i = amo O (O 2 i) n) (hlp : M 113 1 = bI lp) {t : Nat} (b_t : t ≤ 100000)
    (k1 : t < k → Q (.inl (some (.int (-1))), M, κ))
    (k2 : ¬ (t < k) → ((((sw O (O 2 i) i n) - (sw O (O 2 j) j n)) - ((nI k) * (amo O (O 2 i) n))) &&& 63) = 0 → Q (.inl (some (.int (nI k))), M, κ))
    (k3 : ¬ (t < k) → ¬ (((((sw O (O 2 i) i n) - (sw O (O 2 j) j n)) - ((nI k) * (amo O (O 2 i) n))) &&& 63) = 0) → RT 23 (58, [.ref 113, UU, .int (nI i), .int (nI j), UU, .int (nI t), .int (nI (k + 1))], [], M, κ) Q)
    : RT 23 (58, [.ref 113, UU, .int (nI i), .int (nI j), UU, .int (nI t), .int (nI k)], [], M, κ) Q := by
  refine w_load i_23_58 rfl rfl ?_
  refine w_load i_23_60 rfl rfl ?_
  refine w_if2 (t < k) i_23_62 (cN_gt (a := k) (b := t) (by omega) (by omega)) ?_ ?_
  · intro h1
    refine w_push i_23_103 rfl ?_
    exact w_iret i_23_104 (.inl rfl) (k1 h1)
  · intro h2
    refine w_load i_23_65 rfl rfl ?_
    refine w_getR 120 i_23_66 hκ (⟨rfl, by decide⟩ : isOb 113 1) rfl rfl ?_
    refine w_load i_23_69 rfl rfl ?_
    refine w_ialdN (e := i) (v := (sw O (O 2 i) i n)) i_23_70 hκ (⟨rfl, rfl, by decide⟩ : isAr 120 10) (by omega) (by decide) (hfi) ?_
    refine w_load i_23_71 rfl rfl ?_
    refine w_getR 120 i_23_72 hκ (⟨rfl, by decide⟩ : isOb 113 1) rfl rfl ?_
    refine w_load i_23_75 rfl rfl ?_
    refine w_ialdN (e := j) (v := (sw O (O 2 j) j n)) i_23_76 hκ (⟨rfl, rfl, by decide⟩ : isAr 120 10) (by omega) (by decide) (hfj) ?_
    refine w_bin (w := ((sw O (O 2 i) i n) - (sw O (O 2 j) j n))) i_23_77 rfl rfl ?_
    refine w_load i_23_78 rfl rfl ?_
    refine w_load i_23_80 rfl rfl ?_
    refine w_getR 121 i_23_81 hκ (⟨rfl, by decide⟩ : isOb 113 1) rfl rfl ?_
    refine w_load i_23_84 rfl rfl ?_
    refine w_ialdN (e := i) (v := (amo O (O 2 i) n)) i_23_85 hκ (⟨rfl, rfl, by decide⟩ : isAr 121 10) (by omega) (by decide) (hmi) ?_
    refine w_bin (w := ((nI k) * (amo O (O 2 i) n))) i_23_86 rfl rfl ?_
    refine w_bin (w := (((sw O (O 2 i) i n) - (sw O (O 2 j) j n)) - ((nI k) * (amo O (O 2 i) n)))) i_23_87 rfl rfl ?_
    refine w_callS i_23_88 ⟨by decide, by decide, by decide, rfl, rfl⟩ (av := [.int (((sw O (O 2 i) i n) - (sw O (O 2 j) j n)) - ((nI k) * (amo O (O 2 i) n)))]) (rest := []) rfl rfl (Nat.le_of_ble_eq_true rfl) (v := some (.int ((((sw O (O 2 i) i n) - (sw O (O 2 j) j n)) - ((nI k) * (amo O (O 2 i) n))) &&& 63))) (c84 hκ) ?_
    refine w_if0n (((((sw O (O 2 i) i n) - (sw O (O 2 j) j n)) - ((nI k) * (amo O (O 2 i) n))) &&& 63) = 0) i_23_91 cI0_ne ?_ ?_
    · intro h3
      refine w_load i_23_94 rfl rfl ?_
      exact w_iret i_23_96 (.inl rfl) (k2 h2 h3)
    · intro h4
      refine w_iincN (n := k) (l1 := [.ref 113, UU, .int (nI i), .int (nI j), UU, .int (nI t), .int (nI (k + 1))]) 1 i_23_97 rfl rfl ?_
      refine w_goto i_23_100 ?_
      exact (k3 h2 h4)
theorem l23 (hκ : Rd κ) {b n i j t : Nat} {O : Op} {lp : Bool} (hb : isBl b) (hi : i < n) (hj : j < n) (hn : n ≤ 10) (hO : ∀ f, f < 6 → ∀ j, j < n → M (b + 1 + f) j = O f j) (hL : M 119 i = loo O (O 2 i) n) (hfi : M 120 i = sw O (O 2 i) i n) (hfj : M 120 j = sw O (O 2 j) j n) (hmi : M 121 i = amo O (O 2 i) n) (hlp : M 113 1 = bI lp) (ht : t ≤ 64) :
    ∀ d k, k + d = t + 1 → (Q (.inl (some (.int (srch (mtf O n i j) d k))), M, κ)) → RT 23 (58, [.ref 113, UU, .int (nI i), .int (nI j), UU, .int (nI t), .int (nI k)], [], M, κ) Q := by
  intro d
  induction d with
  | zero =>
    intro k hk K
    exact S23_58 hκ hb hi hj hn (by omega) hO hL hfi hfj hmi hlp (by omega) (fun _ => K) (fun h => absurd (by omega : t < k) h) (fun h => absurd (by omega : t < k) h)
  | succ d ih =>
    intro k hk K
    refine S23_58 hκ hb hi hj hn (by omega) hO hL hfi hfj hmi hlp (by omega) (fun h => absurd h (by omega)) (fun _ h => ?_) (fun _ h => ih (k + 1) (by omega) ?_)
    · rw [srch, if_pos (show mtf O n i j k = true from decide_eq_true h)] at K
      exact K
    · rw [srch, if_neg (show ¬ mtf O n i j k = true from fun z => h (of_decide_eq_true z))] at K
      exact K
theorem c23 (hκ : Rd κ) {b n i j : Nat} {O : Op} {lp : Bool} (hb : isBl b) (hi : i < n) (hj : j < n) (hn : n ≤ 10) (hO : ∀ f, f < 6 → ∀ j, j < n → M (b + 1 + f) j = O f j) (hL : M 119 i = loo O (O 2 i) n) (hfi : M 120 i = sw O (O 2 i) i n) (hfj : M 120 j = sw O (O 2 j) j n) (hmi : M 121 i = amo O (O 2 i) n) (hlp : M 113 1 = bI lp) : Run 23 (0, entL 23 [.ref 113, .ref b, .int (nI i), .int (nI j)], [], M, κ) (.inl (some (.int (mtF O n lp i j))), M, κ) := by
  refine RT_run (S23_0 (k := 0) hκ hb hi hj hn (by omega) hO hL hfi hfj hmi hlp ?_ ?_)
  · intro h
    have hn' : ¬ (O 2 i = O 2 j ∧ loo O (O 2 i) n = 0) := by
      rintro ⟨h1, h2⟩
      rcases h with h | h
      · exact h.2 h2
      · exact h h1
    show _ = (Sum.inl (some (Value.int (if _ then _ else _))), M, κ)
    rw [if_neg hn']
  · intro h1 h2
    refine l23 hκ hb hi hj hn hO hL hfi hfj hmi hlp (by split <;> omega) ((if lp = true then 64 else 0) + 1 - (if i < j then 0 else 1)) _ (by split <;> split <;> omega) ?_
    rw [show mtF O n lp i j = srch (mtf O n i j) ((if lp = true then 64 else 0) + 1 - (if i < j then 0 else 1)) (if i < j then 0 else 1) from if_pos ⟨h1, h2⟩]
theorem sw_0 {O : Op} {v : Int32} {k : Nat} : ∀ m, cwt O v m = 0 → sw O v k m = O 4 k
  | 0, _ => rfl
  | m + 1, h => by
    unfold cwt at h
    unfold sw
    split at h
    · omega
    · rw [if_neg ‹_›]
      exact sw_0 m h
theorem lw_lt {O : Op} {v : Int32} : ∀ m, ¬ cwt O v m = 0 → lw O v m < m ∧ wr O (lw O v m) = v
  | 0, h => absurd rfl h
  | m + 1, h => by
    unfold cwt at h
    unfold lw
    split at h
    · rw [if_pos ‹_›]
      exact ⟨Nat.lt_succ_self m, ‹_›⟩
    · rw [if_neg ‹_›]
      have := lw_lt m h
      exact ⟨by omega, this.2⟩
theorem sw_1 {O : Op} {v : Int32} {k : Nat} : ∀ m, cwt O v m = 1 → sw O v k m = O 4 k + (if lw O v m < k then O 4 (lw O v m) else 0)
  | 0, h => by cases h
  | m + 1, h => by
    by_cases c : wr O m = v
    · rw [cwt, if_pos c] at h
      rw [sw, if_pos c, lw, if_pos c, sw_0 m (by omega)]
    · rw [cwt, if_neg c] at h
      rw [sw, if_neg c, lw, if_neg c]
      exact sw_1 m h
/-- the model's writer -/
def wtI (O : Op) (x : Nat) (v : Int32) (n : Nat) : Int32 := if cwt O v n = 0 then -1 else if cwt O v n = 1 then nI (10 * x + lw O v n) else -2
theorem ws_wr {c d v : Int32} (hv : ¬ v = -1) : wsM c d v = true ↔ wrF c d = v := by
  unfold wsM wrF
  simp only [decide_eq_true_eq]
  have e : (¬ 7 < c) ↔ c < 8 := by
    rw [Int32.lt_iff_toInt_lt, Int32.lt_iff_toInt_lt]
    simp
    omega
  rw [e]
  split
  · simp [*]
  · constructor
    · intro h; exact absurd h.1 ‹_›
    · intro h; exact absurd h.symm hv
theorem i_123_0 : ins 123 0 = some (.iconst (-1), 1, 0, 0, 0, (-1)) := rfl
theorem i_123_1 : ins 123 1 = some (.istore_n 3, 2, 3, 0, 0, 0) := rfl
theorem i_123_2 : ins 123 2 = some (.bipush 10, 4, 0, 0, 0, 10) := rfl
theorem i_123_4 : ins 123 4 = some (.iload_n 1, 5, 1, 0, 0, 0) := rfl
theorem i_123_5 : ins 123 5 = some (.imul, 6, 0, 0, 0, 0) := rfl
theorem i_123_6 : ins 123 6 = some (.istore 4, 8, 4, 0, 0, 0) := rfl
theorem i_123_8 : ins 123 8 = some (.iload 4, 10, 4, 0, 0, 0) := rfl
theorem i_123_10 : ins 123 10 = some (.bipush 10, 12, 0, 0, 0, 10) := rfl
theorem i_123_12 : ins 123 12 = some (.iload_n 1, 13, 1, 0, 0, 0) := rfl
theorem i_123_13 : ins 123 13 = some (.imul, 14, 0, 0, 0, 0) := rfl
theorem i_123_14 : ins 123 14 = some (.aload_n 0, 15, 0, 0, 0, 0) := rfl
theorem i_123_15 : ins 123 15 = some (.getfield 78, 18, 7, 26, 0, 0) := rfl
theorem i_123_18 : ins 123 18 = some (.iload_n 1, 19, 1, 0, 0, 0) := rfl
theorem i_123_19 : ins 123 19 = some (.iaload, 20, 0, 0, 0, 0) := rfl
theorem i_123_20 : ins 123 20 = some (.iadd, 21, 0, 0, 0, 0) := rfl
theorem i_123_21 : ins 123 21 = some (.if_icmp .ge 32, 24, 53, 0, 0, 0) := rfl
theorem i_123_24 : ins 123 24 = some (.aload_n 0, 25, 0, 0, 0, 0) := rfl
theorem i_123_25 : ins 123 25 = some (.iload 4, 27, 4, 0, 0, 0) := rfl
theorem i_123_27 : ins 123 27 = some (.iload_n 2, 28, 2, 0, 0, 0) := rfl
theorem i_123_28 : ins 123 28 = some (.invokevirtual 223, 31, 117, 0, 3, 0) := rfl
theorem i_123_31 : ins 123 31 = some (.ifCond .eq 16, 34, 47, 0, 0, 0) := rfl
theorem i_123_34 : ins 123 34 = some (.iload_n 3, 35, 3, 0, 0, 0) := rfl
theorem i_123_35 : ins 123 35 = some (.iconst (-1), 36, 0, 0, 0, (-1)) := rfl
theorem i_123_36 : ins 123 36 = some (.if_icmp .ne 8, 39, 44, 0, 0, 0) := rfl
theorem i_123_39 : ins 123 39 = some (.iload 4, 41, 4, 0, 0, 0) := rfl
theorem i_123_41 : ins 123 41 = some (.goto 5, 44, 46, 0, 0, 0) := rfl
theorem i_123_44 : ins 123 44 = some (.bipush (-2), 46, 0, 0, 0, (-2)) := rfl
theorem i_123_46 : ins 123 46 = some (.istore_n 3, 47, 3, 0, 0, 0) := rfl
theorem i_123_47 : ins 123 47 = some (.iinc 4 1, 50, 4, 0, 0, 1) := rfl
theorem i_123_50 : ins 123 50 = some (.goto (-42), 53, 8, 0, 0, 0) := rfl
theorem i_123_53 : ins 123 53 = some (.iload_n 3, 54, 3, 0, 0, 0) := rfl
theorem i_123_54 : ins 123 54 = some (.ireturn, 55, 0, 0, 0, 0) := rfl
theorem S123_0 {Q : Ou → Prop} {M : Mem} {κ : Kp} (hκ : Rd κ) {x n i : Nat} {O : Op} (hx : x < 6) (hn : n ≤ 10) (hi : i ≤ n) (hc : M 151 x = nI n) (hO : ∀ f, f < 6 → ∀ j, j < n → M (152 + f) (10 * x + j) = O f j) {v : Int32}
    (k1 : RT 123 (8, [.ref 134, .int (nI x), .int v, .int (-1), .int (nI (10 * x))], [], M, κ) Q)
    : RT 123 (0, [.ref 134, .int (nI x), .int v, UU, UU], [], M, κ) Q := by
  refine w_push i_123_0 rfl ?_
  refine w_store (l1 := [.ref 134, .int (nI x), .int v, .int (-1), UU]) i_123_1 rfl (Nat.le_of_ble_eq_true rfl) rfl ?_
  refine w_push i_123_2 rfl ?_
  refine w_load i_123_4 rfl rfl ?_
  refine w_bin (w := (nI (10 * x))) i_123_5 rfl (nI_mul 10 x) ?_
  refine w_store (l1 := [.ref 134, .int (nI x), .int v, .int (-1), .int (nI (10 * x))]) i_123_6 rfl (Nat.le_of_ble_eq_true rfl) rfl ?_
  exact (k1)
theorem S123_8 {Q : Ou → Prop} {M : Mem} {κ : Kp} (hκ : Rd κ) {x n i : Nat} {O : Op} (hx : x < 6) (hn : n ≤ 10) (hi : i ≤ n) (hc : M 151 x = nI n) (hO : ∀ f, f < 6 → ∀ j, j < n → M (152 + f) (10 * x + j) = O f j) {v : Int32} {fo : Int32}
    (k1 : ((10 * x) + i) < ((10 * x) + n) → RT 123 (8, [.ref 134, .int (nI x), .int v, .int (if (wsM (O 0 i) (O 1 i) v) = true then (if fo = (-1) then (nI ((10 * x) + i)) else (-2)) else fo), .int (nI (((10 * x) + i) + 1))], [], M, κ) Q)
    (k2 : ¬ (((10 * x) + i) < ((10 * x) + n)) → Q (.inl (some (.int fo)), M, κ))
    : RT 123 (8, [.ref 134, .int (nI x), .int v, .int fo, .int (nI ((10 * x) + i))], [], M, κ) Q := by
  refine w_load i_123_8 rfl rfl ?_
  refine w_push i_123_10 rfl ?_
  refine w_load i_123_12 rfl rfl ?_
  refine w_bin (w := (nI (10 * x))) i_123_13 rfl (nI_mul 10 x) ?_
  refine w_load i_123_14 rfl rfl ?_
  refine w_getR 151 i_123_15 hκ (⟨rfl, by decide⟩ : isOb 134 7) rfl rfl ?_
  refine w_load i_123_18 rfl rfl ?_
  refine w_ialdN (e := x) (v := (nI n)) i_123_19 hκ (⟨rfl, rfl, by decide⟩ : isAr 151 6) (by omega) (by decide) (hc) ?_
  refine w_bin (w := (nI ((10 * x) + n))) i_123_20 rfl (nI_add (10 * x) n) ?_
  refine w_if2n (((10 * x) + i) < ((10 * x) + n)) i_123_21 (cN_ge (a := ((10 * x) + i)) (b := ((10 * x) + n)) (by omega) (by omega)) ?_ ?_
  · intro h1
    refine w_load i_123_24 rfl rfl ?_
    refine w_load i_123_25 rfl rfl ?_
    refine w_load i_123_27 rfl rfl ?_
    refine w_callV (i := _) i_123_28 ⟨by decide, by decide, by decide, rfl⟩ hκ (⟨rfl, by decide⟩ : isOb 134 7) (av := [.int (nI ((10 * x) + i)), .int v]) (rest := []) rfl rfl (Nat.le_of_ble_eq_true rfl) (v := some (.int (bI (wsM (O 0 i) (O 1 i) v)))) (c117 hκ (by omega) (hO 0 (by decide) i (by omega)) (hO 1 (by decide) i (by omega))) ?_
    have K2 : RT 123 (47, [.ref 134, .int (nI x), .int v, .int (if (wsM (O 0 i) (O 1 i) v) = true then (if fo = (-1) then (nI ((10 * x) + i)) else (-2)) else fo), .int (nI ((10 * x) + i))], [], M, κ) Q := by
      refine w_iincN (n := ((10 * x) + i)) (l1 := [.ref 134, .int (nI x), .int v, .int (if (wsM (O 0 i) (O 1 i) v) = true then (if fo = (-1) then (nI ((10 * x) + i)) else (-2)) else fo), .int (nI (((10 * x) + i) + 1))]) 1 i_123_47 rfl rfl ?_
      refine w_goto i_123_50 ?_
      exact (k1 h1)
    refine w_if0n ((wsM (O 0 i) (O 1 i) v) = true) i_123_31 cB_eq ?_ ?_
    · intro h3
      refine w_load i_123_34 rfl rfl ?_
      refine w_push i_123_35 rfl ?_
      have K4 : RT 123 (46, [.ref 134, .int (nI x), .int v, .int fo, .int (nI ((10 * x) + i))], [.int (if fo = (-1) then (nI ((10 * x) + i)) else (-2))], M, κ) Q := by
        refine w_store (l1 := [.ref 134, .int (nI x), .int v, .int (if fo = (-1) then (nI ((10 * x) + i)) else (-2)), .int (nI ((10 * x) + i))]) i_123_46 rfl (Nat.le_of_ble_eq_true rfl) rfl ?_
        exact (by first | exact (K2) | (have K9 := K2; simp only [↓if_pos h3] at K9 ⊢; exact (K9)))
      refine w_if2n (fo = (-1)) i_123_36 cI_ne ?_ ?_
      · intro h5
        refine w_load i_123_39 rfl rfl ?_
        refine w_goto i_123_41 ?_
        exact (by first | exact (K4) | (have K9 := K4; simp only [↓if_pos h5] at K9 ⊢; exact (K9)))
      · intro h6
        refine w_push i_123_44 rfl ?_
        exact (by first | exact (K4) | (have K9 := K4; simp only [↓if_neg h6] at K9 ⊢; exact (K9)))
    · intro h7
      exact (by first | exact (K2) | (have K9 := K2; simp only [↓if_neg h7] at K9 ⊢; exact (K9)))
  · intro h8
    refine w_load i_123_53 rfl rfl ?_
    exact w_iret i_123_54 (.inl rfl) (k2 h8)
theorem nI_m1 {a : Nat} (h : a < 2147483648) : ¬ nI a = -1 := fun e => by
  have := congrArg Int32.toInt e
  rw [nI_toInt h] at this
  have e2 : (-1 : Int32).toInt = -1 := by decide
  omega
theorem c123 (hκ : Rd κ) {x n : Nat} {O : Op} (hx : x < 6) (hn : n ≤ 10) (hc : M 151 x = nI n) (hO : ∀ f, f < 6 → ∀ j, j < n → M (152 + f) (10 * x + j) = O f j) {v : Int32} (hv : ¬ v = -1) : Run 123 (0, entL 123 [.ref 134, .int (nI x), .int v], [], M, κ) (.inl (some (.int (wtI O x v n))), M, κ) := by
  have L : ∀ d i, i + d = n → RT 123 (8, [.ref 134, .int (nI x), .int v, .int (wtI O x v i), .int (nI ((10 * x) + i))], [], M, κ) (fun o => o = (.inl (some (.int (wtI O x v n))), M, κ)) := by
    intro d
    induction d with
    | zero =>
      intro i h
      have e : i = n := by omega
      subst e
      exact S123_8 hκ hx hn (Nat.le_refl _) hc hO (fun h => absurd h (Nat.lt_irrefl _)) (fun _ => rfl)
    | succ d ih =>
      intro i h
      refine S123_8 hκ hx hn (by omega) hc hO (fun _ => ?_) (fun h => absurd (by omega) h)
      have hh := ih (i + 1) (by omega)
      have e : (if (wsM (O 0 i) (O 1 i) v) = true then (if wtI O x v i = (-1) then (nI ((10 * x) + i)) else (-2)) else wtI O x v i) = wtI O x v (i + 1) := by
        have hw : wsM (O 0 i) (O 1 i) v = true ↔ wr O i = v := ws_wr hv
        by_cases c : wr O i = v
        · rw [if_pos (hw.mpr c)]
          unfold wtI
          rw [cwt, if_pos c, lw, if_pos c]
          by_cases c0 : cwt O v i = 0
          · rw [if_pos c0, if_pos rfl, if_neg (by omega), if_pos (by omega)]
          · rw [if_neg c0, if_neg (Nat.succ_ne_zero _)]
            rw [if_neg (show ¬ cwt O v i + 1 = 1 by omega)]
            have hl := lw_lt i c0
            split
            · rw [if_neg (nI_m1 (by omega))]
            · rw [if_neg (by decide)]
        · rw [if_neg (fun z => c (hw.mp z))]
          unfold wtI
          rw [cwt, if_neg c, lw, if_neg c]
      rw [e]
      exact hh
  refine RT_run (S123_0 (i := 0) hκ hx hn (by omega) hc hO ?_)
  exact L n 0 (by omega)
theorem i_125_0 : ins 125 0 = some (.iload_n 2, 1, 2, 0, 0, 0) := rfl
theorem i_125_1 : ins 125 1 = some (.iload_n 3, 2, 3, 0, 0, 0) := rfl
theorem i_125_2 : ins 125 2 = some (.if_icmp .ge 7, 5, 9, 0, 0, 0) := rfl
theorem i_125_5 : ins 125 5 = some (.iconst 0, 6, 0, 0, 0, 0) := rfl
theorem i_125_6 : ins 125 6 = some (.goto 4, 9, 10, 0, 0, 0) := rfl
theorem i_125_9 : ins 125 9 = some (.iconst 1, 10, 0, 0, 0, 1) := rfl
theorem i_125_10 : ins 125 10 = some (.istore 4, 12, 4, 0, 0, 0) := rfl
theorem i_125_12 : ins 125 12 = some (.aload_n 0, 13, 0, 0, 0, 0) := rfl
theorem i_125_13 : ins 125 13 = some (.getfield 87, 16, 7, 29, 0, 0) := rfl
theorem i_125_16 : ins 125 16 = some (.iload_n 2, 17, 2, 0, 0, 0) := rfl
theorem i_125_17 : ins 125 17 = some (.iaload, 18, 0, 0, 0, 0) := rfl
theorem i_125_18 : ins 125 18 = some (.istore 5, 20, 5, 0, 0, 0) := rfl
theorem i_125_20 : ins 125 20 = some (.aload_n 0, 21, 0, 0, 0, 0) := rfl
theorem i_125_21 : ins 125 21 = some (.iload_n 1, 22, 1, 0, 0, 0) := rfl
theorem i_125_22 : ins 125 22 = some (.iload 5, 24, 5, 0, 0, 0) := rfl
theorem i_125_24 : ins 125 24 = some (.invokevirtual 240, 27, 123, 0, 3, 0) := rfl
theorem i_125_27 : ins 125 27 = some (.istore 6, 29, 6, 0, 0, 0) := rfl
theorem i_125_29 : ins 125 29 = some (.aload_n 0, 30, 0, 0, 0, 0) := rfl
theorem i_125_30 : ins 125 30 = some (.getfield 87, 33, 7, 29, 0, 0) := rfl
theorem i_125_33 : ins 125 33 = some (.iload_n 3, 34, 3, 0, 0, 0) := rfl
theorem i_125_34 : ins 125 34 = some (.iaload, 35, 0, 0, 0, 0) := rfl
theorem i_125_35 : ins 125 35 = some (.iload 5, 37, 5, 0, 0, 0) := rfl
theorem i_125_37 : ins 125 37 = some (.if_icmp .ne 14, 40, 51, 0, 0, 0) := rfl
theorem i_125_40 : ins 125 40 = some (.aload_n 0, 41, 0, 0, 0, 0) := rfl
theorem i_125_41 : ins 125 41 = some (.iload 6, 43, 6, 0, 0, 0) := rfl
theorem i_125_43 : ins 125 43 = some (.iload 5, 45, 5, 0, 0, 0) := rfl
theorem i_125_45 : ins 125 45 = some (.invokevirtual 243, 48, 124, 0, 3, 0) := rfl
theorem i_125_48 : ins 125 48 = some (.ifCond .ne 6, 51, 54, 0, 0, 0) := rfl
theorem i_125_51 : ins 125 51 = some (.iload 4, 53, 4, 0, 0, 0) := rfl
theorem i_125_53 : ins 125 53 = some (.ireturn, 54, 0, 0, 0, 0) := rfl
theorem i_125_54 : ins 125 54 = some (.iload 6, 56, 6, 0, 0, 0) := rfl
theorem i_125_56 : ins 125 56 = some (.iconst (-1), 57, 0, 0, 0, (-1)) := rfl
theorem i_125_57 : ins 125 57 = some (.if_icmp .ne 7, 60, 64, 0, 0, 0) := rfl
theorem i_125_60 : ins 125 60 = some (.iconst 0, 61, 0, 0, 0, 0) := rfl
theorem i_125_61 : ins 125 61 = some (.goto 10, 64, 71, 0, 0, 0) := rfl
theorem i_125_64 : ins 125 64 = some (.aload_n 0, 65, 0, 0, 0, 0) := rfl
theorem i_125_65 : ins 125 65 = some (.getfield 93, 68, 7, 31, 0, 0) := rfl
theorem i_125_68 : ins 125 68 = some (.iload 6, 70, 6, 0, 0, 0) := rfl
theorem i_125_70 : ins 125 70 = some (.iaload, 71, 0, 0, 0, 0) := rfl
theorem i_125_71 : ins 125 71 = some (.istore 7, 73, 7, 0, 0, 0) := rfl
theorem i_125_73 : ins 125 73 = some (.aload_n 0, 74, 0, 0, 0, 0) := rfl
theorem i_125_74 : ins 125 74 = some (.getfield 93, 77, 7, 31, 0, 0) := rfl
theorem i_125_77 : ins 125 77 = some (.iload_n 2, 78, 2, 0, 0, 0) := rfl
theorem i_125_78 : ins 125 78 = some (.iaload, 79, 0, 0, 0, 0) := rfl
theorem i_125_79 : ins 125 79 = some (.iload 6, 81, 6, 0, 0, 0) := rfl
theorem i_125_81 : ins 125 81 = some (.iconst (-1), 82, 0, 0, 0, (-1)) := rfl
theorem i_125_82 : ins 125 82 = some (.if_icmp .eq 14, 85, 96, 0, 0, 0) := rfl
theorem i_125_85 : ins 125 85 = some (.iload_n 2, 86, 2, 0, 0, 0) := rfl
theorem i_125_86 : ins 125 86 = some (.iload 6, 88, 6, 0, 0, 0) := rfl
theorem i_125_88 : ins 125 88 = some (.if_icmp .le 8, 91, 96, 0, 0, 0) := rfl
theorem i_125_91 : ins 125 91 = some (.iload 7, 93, 7, 0, 0, 0) := rfl
theorem i_125_93 : ins 125 93 = some (.goto 4, 96, 97, 0, 0, 0) := rfl
theorem i_125_96 : ins 125 96 = some (.iconst 0, 97, 0, 0, 0, 0) := rfl
theorem i_125_97 : ins 125 97 = some (.iadd, 98, 0, 0, 0, 0) := rfl
theorem i_125_98 : ins 125 98 = some (.istore 8, 100, 8, 0, 0, 0) := rfl
theorem i_125_100 : ins 125 100 = some (.aload_n 0, 101, 0, 0, 0, 0) := rfl
theorem i_125_101 : ins 125 101 = some (.getfield 93, 104, 7, 31, 0, 0) := rfl
theorem i_125_104 : ins 125 104 = some (.iload_n 3, 105, 3, 0, 0, 0) := rfl
theorem i_125_105 : ins 125 105 = some (.iaload, 106, 0, 0, 0, 0) := rfl
theorem i_125_106 : ins 125 106 = some (.iload 6, 108, 6, 0, 0, 0) := rfl
theorem i_125_108 : ins 125 108 = some (.iconst (-1), 109, 0, 0, 0, (-1)) := rfl
theorem i_125_109 : ins 125 109 = some (.if_icmp .eq 14, 112, 123, 0, 0, 0) := rfl
theorem i_125_112 : ins 125 112 = some (.iload_n 3, 113, 3, 0, 0, 0) := rfl
theorem i_125_113 : ins 125 113 = some (.iload 6, 115, 6, 0, 0, 0) := rfl
theorem i_125_115 : ins 125 115 = some (.if_icmp .le 8, 118, 123, 0, 0, 0) := rfl
theorem i_125_118 : ins 125 118 = some (.iload 7, 120, 7, 0, 0, 0) := rfl
theorem i_125_120 : ins 125 120 = some (.goto 4, 123, 124, 0, 0, 0) := rfl
theorem i_125_123 : ins 125 123 = some (.iconst 0, 124, 0, 0, 0, 0) := rfl
theorem i_125_124 : ins 125 124 = some (.iadd, 125, 0, 0, 0, 0) := rfl
theorem i_125_125 : ins 125 125 = some (.istore 9, 127, 9, 0, 0, 0) := rfl
theorem i_125_127 : ins 125 127 = some (.iload 4, 129, 4, 0, 0, 0) := rfl
theorem i_125_129 : ins 125 129 = some (.istore 10, 131, 10, 0, 0, 0) := rfl
theorem i_125_131 : ins 125 131 = some (.iload 10, 133, 10, 0, 0, 0) := rfl
theorem i_125_133 : ins 125 133 = some (.bipush 64, 135, 0, 0, 0, 64) := rfl
theorem i_125_135 : ins 125 135 = some (.if_icmp .gt 26, 138, 161, 0, 0, 0) := rfl
theorem i_125_138 : ins 125 138 = some (.iload 8, 140, 8, 0, 0, 0) := rfl
theorem i_125_140 : ins 125 140 = some (.iload 9, 142, 9, 0, 0, 0) := rfl
theorem i_125_142 : ins 125 142 = some (.isub, 143, 0, 0, 0, 0) := rfl
theorem i_125_143 : ins 125 143 = some (.iload 10, 145, 10, 0, 0, 0) := rfl
theorem i_125_145 : ins 125 145 = some (.iload 7, 147, 7, 0, 0, 0) := rfl
theorem i_125_147 : ins 125 147 = some (.imul, 148, 0, 0, 0, 0) := rfl
theorem i_125_148 : ins 125 148 = some (.isub, 149, 0, 0, 0, 0) := rfl
theorem i_125_149 : ins 125 149 = some (.bipush 63, 151, 0, 0, 0, 63) := rfl
theorem i_125_151 : ins 125 151 = some (.iand, 152, 0, 0, 0, 0) := rfl
theorem i_125_152 : ins 125 152 = some (.ifCond .eq 9, 155, 161, 0, 0, 0) := rfl
theorem i_125_155 : ins 125 155 = some (.iinc 10 1, 158, 10, 0, 0, 1) := rfl
theorem i_125_158 : ins 125 158 = some (.goto (-27), 161, 131, 0, 0, 0) := rfl
theorem i_125_161 : ins 125 161 = some (.iload 10, 163, 10, 0, 0, 0) := rfl
theorem i_125_163 : ins 125 163 = some (.bipush 64, 165, 0, 0, 0, 64) := rfl
theorem i_125_165 : ins 125 165 = some (.if_icmp .gt 18, 168, 183, 0, 0, 0) := rfl
theorem i_125_168 : ins 125 168 = some (.iload 10, 170, 10, 0, 0, 0) := rfl
theorem i_125_170 : ins 125 170 = some (.ifCond .le 18, 173, 188, 0, 0, 0) := rfl
theorem i_125_173 : ins 125 173 = some (.aload_n 0, 174, 0, 0, 0, 0) := rfl
theorem i_125_174 : ins 125 174 = some (.getfield 66, 177, 7, 22, 0, 0) := rfl
theorem i_125_177 : ins 125 177 = some (.iload_n 1, 178, 1, 0, 0, 0) := rfl
theorem i_125_178 : ins 125 178 = some (.iaload, 179, 0, 0, 0, 0) := rfl
theorem i_125_179 : ins 125 179 = some (.iconst 3, 180, 0, 0, 0, 3) := rfl
theorem i_125_180 : ins 125 180 = some (.if_icmp .eq 8, 183, 188, 0, 0, 0) := rfl
theorem i_125_183 : ins 125 183 = some (.ldc 222, 185, 222, 0, 0, (-100000)) := rfl
theorem i_125_185 : ins 125 185 = some (.goto 5, 188, 190, 0, 0, 0) := rfl
theorem i_125_188 : ins 125 188 = some (.iload 10, 190, 10, 0, 0, 0) := rfl
theorem i_125_190 : ins 125 190 = some (.ireturn, 191, 0, 0, 0, 0) := rfl
theorem S125_0 {Q : Ou → Prop} {M : Mem} {κ : Kp} (hκ : Rd κ) {x n i j k : Nat} {O : Op} {e : Int32} (hx : x < 6) (hn : n ≤ 10) (hi : i < n) (hj : j < n) (hk : k ≤ 65) (hc : M 151 x = nI n) (he : M 147 x = e) (hO : ∀ f, f < 6 → ∀ j, j < n → M (152 + f) (10 * x + j) = O f j)  {r_24 : Int32} {r_45 : Bool}
    (o1 : Run 123 (0, entL 123 [.ref 134, .int (nI x), .int (O 2 i)], [], M, κ) (.inl (some (.int r_24)), M, κ))
    (o2 : (O 2 j) = (O 2 i) → Run 124 (0, entL 124 [.ref 134, .int r_24, .int (O 2 i)], [], M, κ) (.inl (some (.int (bI r_45))), M, κ))
    (o3 : (O 2 j) = (O 2 i) → r_45 = true → ¬ (r_24 = (-1)) → vp_in r_24 60)
    (k1 : ((((O 2 j) = (O 2 i)) ∧ (¬ (r_45 = true))) ∨ (¬ ((O 2 j) = (O 2 i)))) → Q (.inl (some (.int (nI (if ((10 * x) + i) < ((10 * x) + j) then 0 else 1)))), M, κ))
    (k2 : (O 2 j) = (O 2 i) → r_45 = true → RT 125 (131, [.ref 134, .int (nI x), UU, UU, UU, UU, UU, .int (if r_24 = (-1) then 0 else (M 156 r_24.toNatClampNeg)), .int ((O 4 i) + (if r_24 = (-1) then 0 else (if r_24 < (nI ((10 * x) + i)) then (if r_24 = (-1) then 0 else (M 156 r_24.toNatClampNeg)) else 0))), .int ((O 4 j) + (if r_24 = (-1) then 0 else (if r_24 < (nI ((10 * x) + j)) then (if r_24 = (-1) then 0 else (M 156 r_24.toNatClampNeg)) else 0))), .int (nI (if ((10 * x) + i) < ((10 * x) + j) then 0 else 1))], [], M, κ) Q)
    : RT 125 (0, [.ref 134, .int (nI x), .int (nI ((10 * x) + i)), .int (nI ((10 * x) + j)), UU, UU, UU, UU, UU, UU, UU], [], M, κ) Q := by
  refine w_load i_125_0 rfl rfl ?_
  refine w_load i_125_1 rfl rfl ?_
  have K1 : RT 125 (10, [.ref 134, .int (nI x), .int (nI ((10 * x) + i)), .int (nI ((10 * x) + j)), UU, UU, UU, UU, UU, UU, UU], [.int (nI (if ((10 * x) + i) < ((10 * x) + j) then 0 else 1))], M, κ) Q := by
    refine w_store (l1 := [.ref 134, .int (nI x), .int (nI ((10 * x) + i)), .int (nI ((10 * x) + j)), .int (nI (if ((10 * x) + i) < ((10 * x) + j) then 0 else 1)), UU, UU, UU, UU, UU, UU]) i_125_10 rfl (Nat.le_of_ble_eq_true rfl) rfl ?_
    refine w_load i_125_12 rfl rfl ?_
    refine w_getR 154 i_125_13 hκ (⟨rfl, by decide⟩ : isOb 134 7) rfl rfl ?_
    refine w_load i_125_16 rfl rfl ?_
    refine w_ialdN (e := ((10 * x) + i)) (v := (O 2 i)) i_125_17 hκ (⟨rfl, rfl, by decide⟩ : isAr 154 60) (by omega) (by decide) (hO 2 (by decide) i (by omega)) ?_
    refine w_store (l1 := [.ref 134, .int (nI x), .int (nI ((10 * x) + i)), .int (nI ((10 * x) + j)), .int (nI (if ((10 * x) + i) < ((10 * x) + j) then 0 else 1)), .int (O 2 i), UU, UU, UU, UU, UU]) i_125_18 rfl (Nat.le_of_ble_eq_true rfl) rfl ?_
    refine w_load i_125_20 rfl rfl ?_
    refine w_load i_125_21 rfl rfl ?_
    refine w_load i_125_22 rfl rfl ?_
    refine w_callV (i := _) i_125_24 ⟨by decide, by decide, by decide, rfl⟩ hκ (⟨rfl, by decide⟩ : isOb 134 7) (av := [.int (nI x), .int (O 2 i)]) (rest := []) rfl rfl (Nat.le_of_ble_eq_true rfl) (v := some (.int r_24)) (o1) ?_
    refine w_store (l1 := [.ref 134, .int (nI x), .int (nI ((10 * x) + i)), .int (nI ((10 * x) + j)), .int (nI (if ((10 * x) + i) < ((10 * x) + j) then 0 else 1)), .int (O 2 i), .int r_24, UU, UU, UU, UU]) i_125_27 rfl (Nat.le_of_ble_eq_true rfl) rfl ?_
    refine w_load i_125_29 rfl rfl ?_
    refine w_getR 154 i_125_30 hκ (⟨rfl, by decide⟩ : isOb 134 7) rfl rfl ?_
    refine w_load i_125_33 rfl rfl ?_
    refine w_ialdN (e := ((10 * x) + j)) (v := (O 2 j)) i_125_34 hκ (⟨rfl, rfl, by decide⟩ : isAr 154 60) (by omega) (by decide) (hO 2 (by decide) j (by omega)) ?_
    refine w_load i_125_35 rfl rfl ?_
    have K2 : ((((O 2 j) = (O 2 i)) ∧ (¬ (r_45 = true))) ∨ (¬ ((O 2 j) = (O 2 i)))) → RT 125 (51, [.ref 134, .int (nI x), .int (nI ((10 * x) + i)), .int (nI ((10 * x) + j)), .int (nI (if ((10 * x) + i) < ((10 * x) + j) then 0 else 1)), .int (O 2 i), .int r_24, UU, UU, UU, UU], [], M, κ) Q := by
      intro h3
      refine w_load i_125_51 rfl rfl ?_
      exact w_iret i_125_53 (.inl rfl) (k1 h3)
    refine w_if2n ((O 2 j) = (O 2 i)) i_125_37 cI_ne ?_ ?_
    · intro h4
      refine w_load i_125_40 rfl rfl ?_
      refine w_load i_125_41 rfl rfl ?_
      refine w_load i_125_43 rfl rfl ?_
      refine w_callV (i := _) i_125_45 ⟨by decide, by decide, by decide, rfl⟩ hκ (⟨rfl, by decide⟩ : isOb 134 7) (av := [.int r_24, .int (O 2 i)]) (rest := []) rfl rfl (Nat.le_of_ble_eq_true rfl) (v := some (.int (bI r_45))) (o2 h4) ?_
      refine w_if0 (r_45 = true) i_125_48 cB_ne ?_ ?_
      · intro h5
        refine w_load i_125_54 rfl rfl ?_
        refine w_push i_125_56 rfl ?_
        have K6 : RT 125 (71, [.ref 134, .int (nI x), .int (nI ((10 * x) + i)), .int (nI ((10 * x) + j)), .int (nI (if ((10 * x) + i) < ((10 * x) + j) then 0 else 1)), .int (O 2 i), .int r_24, UU, UU, UU, UU], [.int (if r_24 = (-1) then 0 else (M 156 r_24.toNatClampNeg))], M, κ) Q := by
          refine w_store (l1 := [.ref 134, .int (nI x), .int (nI ((10 * x) + i)), .int (nI ((10 * x) + j)), .int (nI (if ((10 * x) + i) < ((10 * x) + j) then 0 else 1)), .int (O 2 i), .int r_24, .int (if r_24 = (-1) then 0 else (M 156 r_24.toNatClampNeg)), UU, UU, UU]) i_125_71 rfl (Nat.le_of_ble_eq_true rfl) rfl ?_
          refine w_load i_125_73 rfl rfl ?_
          refine w_getR 156 i_125_74 hκ (⟨rfl, by decide⟩ : isOb 134 7) rfl rfl ?_
          refine w_load i_125_77 rfl rfl ?_
          refine w_ialdN (e := ((10 * x) + i)) (v := (O 4 i)) i_125_78 hκ (⟨rfl, rfl, by decide⟩ : isAr 156 60) (by omega) (by decide) (hO 4 (by decide) i (by omega)) ?_
          refine w_load i_125_79 rfl rfl ?_
          refine w_push i_125_81 rfl ?_
          have K7 : RT 125 (97, [.ref 134, .int (nI x), .int (nI ((10 * x) + i)), .int (nI ((10 * x) + j)), .int (nI (if ((10 * x) + i) < ((10 * x) + j) then 0 else 1)), .int (O 2 i), .int r_24, .int (if r_24 = (-1) then 0 else (M 156 r_24.toNatClampNeg)), UU, UU, UU], [.int (if r_24 = (-1) then 0 else (if r_24 < (nI ((10 * x) + i)) then (if r_24 = (-1) then 0 else (M 156 r_24.toNatClampNeg)) else 0)), .int (O 4 i)], M, κ) Q := by
            refine w_bin (w := ((O 4 i) + (if r_24 = (-1) then 0 else (if r_24 < (nI ((10 * x) + i)) then (if r_24 = (-1) then 0 else (M 156 r_24.toNatClampNeg)) else 0)))) i_125_97 rfl rfl ?_
            refine w_store (l1 := [.ref 134, .int (nI x), .int (nI ((10 * x) + i)), .int (nI ((10 * x) + j)), .int (nI (if ((10 * x) + i) < ((10 * x) + j) then 0 else 1)), .int (O 2 i), .int r_24, .int (if r_24 = (-1) then 0 else (M 156 r_24.toNatClampNeg)), .int ((O 4 i) + (if r_24 = (-1) then 0 else (if r_24 < (nI ((10 * x) + i)) then (if r_24 = (-1) then 0 else (M 156 r_24.toNatClampNeg)) else 0))), UU, UU]) i_125_98 rfl (Nat.le_of_ble_eq_true rfl) rfl ?_
            refine w_load i_125_100 rfl rfl ?_
            refine w_getR 156 i_125_101 hκ (⟨rfl, by decide⟩ : isOb 134 7) rfl rfl ?_
            refine w_load i_125_104 rfl rfl ?_
            refine w_ialdN (e := ((10 * x) + j)) (v := (O 4 j)) i_125_105 hκ (⟨rfl, rfl, by decide⟩ : isAr 156 60) (by omega) (by decide) (hO 4 (by decide) j (by omega)) ?_
            refine w_load i_125_106 rfl rfl ?_
            refine w_push i_125_108 rfl ?_
            have K8 : RT 125 (124, [.ref 134, .int (nI x), .int (nI ((10 * x) + i)), .int (nI ((10 * x) + j)), .int (nI (if ((10 * x) + i) < ((10 * x) + j) then 0 else 1)), .int (O 2 i), .int r_24, .int (if r_24 = (-1) then 0 else (M 156 r_24.toNatClampNeg)), .int ((O 4 i) + (if r_24 = (-1) then 0 else (if r_24 < (nI ((10 * x) + i)) then (if r_24 = (-1) then 0 else (M 156 r_24.toNatClampNeg)) else 0))), UU, UU], [.int (if r_24 = (-1) then 0 else (if r_24 < (nI ((10 * x) + j)) then (if r_24 = (-1) then 0 else (M 156 r_24.toNatClampNeg)) else 0)), .int (O 4 j)], M, κ) Q := by
              refine w_bin (w := ((O 4 j) + (if r_24 = (-1) then 0 else (if r_24 < (nI ((10 * x) + j)) then (if r_24 = (-1) then 0 else (M 156 r_24.toNatClampNeg)) else 0)))) i_125_124 rfl rfl ?_
              refine w_store (l1 := [.ref 134, .int (nI x), .int (nI ((10 * x) + i)), .int (nI ((10 * x) + j)), .int (nI (if ((10 * x) + i) < ((10 * x) + j) then 0 else 1)), .int (O 2 i), .int r_24, .int (if r_24 = (-1) then 0 else (M 156 r_24.toNatClampNeg)), .int ((O 4 i) + (if r_24 = (-1) then 0 else (if r_24 < (nI ((10 * x) + i)) then (if r_24 = (-1) then 0 else (M 156 r_24.toNatClampNeg)) else 0))), .int ((O 4 j) + (if r_24 = (-1) then 0 else (if r_24 < (nI ((10 * x) + j)) then (if r_24 = (-1) then 0 else (M 156 r_24.toNatClampNeg)) else 0))), UU]) i_125_125 rfl (Nat.le_of_ble_eq_true rfl) rfl ?_
              refine w_load i_125_127 rfl rfl ?_
              refine w_store (l1 := [.ref 134, .int (nI x), .int (nI ((10 * x) + i)), .int (nI ((10 * x) + j)), .int (nI (if ((10 * x) + i) < ((10 * x) + j) then 0 else 1)), .int (O 2 i), .int r_24, .int (if r_24 = (-1) then 0 else (M 156 r_24.toNatClampNeg)), .int ((O 4 i) + (if r_24 = (-1) then 0 else (if r_24 < (nI ((10 * x) + i)) then (if r_24 = (-1) then 0 else (M 156 r_24.toNatClampNeg)) else 0))), .int ((O 4 j) + (if r_24 = (-1) then 0 else (if r_24 < (nI ((10 * x) + j)) then (if r_24 = (-1) then 0 else (M 156 r_24.toNatClampNeg)) else 0))), .int (nI (if ((10 * x) + i) < ((10 * x) + j) then 0 else 1))]) i_125_129 rfl (Nat.le_of_ble_eq_true rfl) rfl ?_
              exact w_weak (lle_s (lle_s (lle_u (lle_u (lle_u (lle_u (lle_u (lle_s (lle_s (lle_s (lle_s lle_n))))))))))) (k2 h4 h5)
            refine w_if2 (r_24 = (-1)) i_125_109 cI_eq ?_ ?_
            · intro h9
              refine w_push i_125_123 rfl ?_
              exact (by first | exact (K8) | (have K9 := K8; simp only [↓if_pos h9] at K9 ⊢; exact (K9)))
            · intro h10
              refine w_load i_125_112 rfl rfl ?_
              refine w_load i_125_113 rfl rfl ?_
              refine w_if2n (r_24 < (nI ((10 * x) + j))) i_125_115 cI_le ?_ ?_
              · intro h11
                refine w_load i_125_118 rfl rfl ?_
                refine w_goto i_125_120 ?_
                exact (by first | exact (K8) | (have K9 := K8; simp only [↓if_neg h10, ↓if_pos h11] at K9 ⊢; exact (K9)))
              · intro h12
                refine w_push i_125_123 rfl ?_
                exact (by first | exact (K8) | (have K9 := K8; simp only [↓if_neg h10, ↓if_neg h12] at K9 ⊢; exact (K9)))
          refine w_if2 (r_24 = (-1)) i_125_82 cI_eq ?_ ?_
          · intro h13
            refine w_push i_125_96 rfl ?_
            exact (by first | exact (K7) | (have K9 := K7; simp only [↓if_pos h13] at K9 ⊢; exact (K9)))
          · intro h14
            refine w_load i_125_85 rfl rfl ?_
            refine w_load i_125_86 rfl rfl ?_
            refine w_if2n (r_24 < (nI ((10 * x) + i))) i_125_88 cI_le ?_ ?_
            · intro h15
              refine w_load i_125_91 rfl rfl ?_
              refine w_goto i_125_93 ?_
              exact (by first | exact (K7) | (have K9 := K7; simp only [↓if_neg h14, ↓if_pos h15] at K9 ⊢; exact (K9)))
            · intro h16
              refine w_push i_125_96 rfl ?_
              exact (by first | exact (K7) | (have K9 := K7; simp only [↓if_neg h14, ↓if_neg h16] at K9 ⊢; exact (K9)))
        refine w_if2n (r_24 = (-1)) i_125_57 cI_ne ?_ ?_
        · intro h17
          refine w_push i_125_60 rfl ?_
          refine w_goto i_125_61 ?_
          exact (by first | exact (K6) | (have K9 := K6; simp only [↓if_pos h17] at K9 ⊢; exact (K9)))
        · intro h18
          refine w_load i_125_64 rfl rfl ?_
          refine w_getR 156 i_125_65 hκ (⟨rfl, by decide⟩ : isOb 134 7) rfl rfl ?_
          refine w_load i_125_68 rfl rfl ?_
          refine w_iald (v := (M 156 r_24.toNatClampNeg)) i_125_70 hκ (⟨rfl, rfl, by decide⟩ : isAr 156 60) (o3 h4 h5 h18) (rfl) ?_
          exact (by first | exact (K6) | (have K9 := K6; simp only [↓if_neg h18] at K9 ⊢; exact (K9)))
      · intro h19
        exact (by first | exact (K2 (.inl ⟨h4, h19⟩)) | (have K9 := K2 (.inl ⟨h4, h19⟩); simp only [↓if_pos h4, ↓if_neg h19] at K9 ⊢; exact (K9)))
    · intro h20
      exact (by first | exact (K2 (.inr h20)) | (have K9 := K2 (.inr h20); simp only [↓if_neg h20] at K9 ⊢; exact (K9)))
  refine w_if2n (((10 * x) + i) < ((10 * x) + j)) i_125_2 (cN_ge (a := ((10 * x) + i)) (b := ((10 * x) + j)) (by omega) (by omega)) ?_ ?_
  · intro h21
    refine w_push i_125_5 rfl ?_
    refine w_goto i_125_6 ?_
    exact (by first | exact (K1) | (have K9 := K1; simp only [↓if_pos h21] at K9 ⊢; exact (K9)))
  · intro h22
    refine w_push i_125_9 rfl ?_
    exact (by first | exact (K1) | (have K9 := K1; simp only [↓if_neg h22] at K9 ⊢; exact (K9)))
theorem S125_131 {Q : Ou → Prop} {M : Mem} {κ : Kp} (hκ : Rd κ) {x n i j k : Nat} {O : Op} {e : Int32} (hx : x < 6) (hn : n ≤ 10) (hi : i < n) (hj : j < n) (hk : k ≤ 65) (hc : M 151 x = nI n) (he : M 147 x = e) (hO : ∀ f, f < 6 → ∀ j, j < n → M (152 + f) (10 * x + j) = O f j) {am : Int32} {o1 : Int32} {o2 : Int32}
    (k1 : ((64 < k) ∨ ((¬ (64 < k)) ∧ ((((o1 - o2) - ((nI k) * am)) &&& 63) = 0))) → Q (.inl (some (.int (if 64 < k then (-100000) else (if 0 < k then (if e = 3 then (nI k) else (-100000)) else (nI k))))), M, κ))
    (k2 : ¬ (64 < k) → ¬ ((((o1 - o2) - ((nI k) * am)) &&& 63) = 0) → RT 125 (131, [.ref 134, .int (nI x), UU, UU, UU, UU, UU, .int am, .int o1, .int o2, .int (nI (k + 1))], [], M, κ) Q)
    : RT 125 (131, [.ref 134, .int (nI x), UU, UU, UU, UU, UU, .int am, .int o1, .int o2, .int (nI k)], [], M, κ) Q := by
  refine w_load i_125_131 rfl rfl ?_
  refine w_push i_125_133 rfl ?_
  have K1 : ((64 < k) ∨ ((¬ (64 < k)) ∧ ((((o1 - o2) - ((nI k) * am)) &&& 63) = 0))) → RT 125 (161, [.ref 134, .int (nI x), UU, UU, UU, UU, UU, .int am, .int o1, .int o2, .int (nI k)], [], M, κ) Q := by
    intro h2
    refine w_load i_125_161 rfl rfl ?_
    refine w_push i_125_163 rfl ?_
    have K3 : RT 125 (190, [.ref 134, .int (nI x), UU, UU, UU, UU, UU, .int am, .int o1, .int o2, .int (nI k)], [.int (if 64 < k then (-100000) else (if 0 < k then (if e = 3 then (nI k) else (-100000)) else (nI k)))], M, κ) Q := by
      exact w_iret i_125_190 (.inl rfl) (k1 h2)
    refine w_if2 (64 < k) i_125_165 (cN_gt (a := k) (b := 64) (by omega) (by omega)) ?_ ?_
    · intro h4
      refine w_push i_125_183 rfl ?_
      refine w_goto i_125_185 ?_
      exact (by first | exact (K3) | (have K9 := K3; simp only [↓if_pos h4] at K9 ⊢; exact (K9)))
    · intro h5
      refine w_load i_125_168 rfl rfl ?_
      refine w_if0n (0 < k) i_125_170 (cZ_le (a := k) (by omega) (by decide)) ?_ ?_
      · intro h6
        refine w_load i_125_173 rfl rfl ?_
        refine w_getR 147 i_125_174 hκ (⟨rfl, by decide⟩ : isOb 134 7) rfl rfl ?_
        refine w_load i_125_177 rfl rfl ?_
        refine w_ialdN (e := x) (v := e) i_125_178 hκ (⟨rfl, rfl, by decide⟩ : isAr 147 6) (by omega) (by decide) (he) ?_
        refine w_push i_125_179 rfl ?_
        refine w_if2 (e = 3) i_125_180 cI_eq ?_ ?_
        · intro h7
          refine w_load i_125_188 rfl rfl ?_
          exact (by first | exact (K3) | (have K9 := K3; simp only [↓if_neg h5, ↓if_pos h6, ↓if_pos h7] at K9 ⊢; exact (K9)))
        · intro h8
          refine w_push i_125_183 rfl ?_
          refine w_goto i_125_185 ?_
          exact (by first | exact (K3) | (have K9 := K3; simp only [↓if_neg h5, ↓if_pos h6, ↓if_neg h8] at K9 ⊢; exact (K9)))
      · intro h9
        refine w_load i_125_188 rfl rfl ?_
        exact (by first | exact (K3) | (have K9 := K3; simp only [↓if_neg h5, ↓if_neg h9] at K9 ⊢; exact (K9)))
  refine w_if2 (64 < k) i_125_135 (cN_gt (a := k) (b := 64) (by omega) (by omega)) ?_ ?_
  · intro h10
    exact (by first | exact (K1 (.inl h10)) | (have K9 := K1 (.inl h10); simp only [↓if_pos h10] at K9 ⊢; exact (K9)))
  · intro h11
    refine w_load i_125_138 rfl rfl ?_
    refine w_load i_125_140 rfl rfl ?_
    refine w_bin (w := (o1 - o2)) i_125_142 rfl rfl ?_
    refine w_load i_125_143 rfl rfl ?_
    refine w_load i_125_145 rfl rfl ?_
    refine w_bin (w := ((nI k) * am)) i_125_147 rfl rfl ?_
    refine w_bin (w := ((o1 - o2) - ((nI k) * am))) i_125_148 rfl rfl ?_
    refine w_push i_125_149 rfl ?_
    refine w_bin (w := (((o1 - o2) - ((nI k) * am)) &&& 63)) i_125_151 rfl rfl ?_
    refine w_if0 ((((o1 - o2) - ((nI k) * am)) &&& 63) = 0) i_125_152 cI0_eq ?_ ?_
    · intro h12
      exact (by first | exact (K1 (.inr ⟨h11, h12⟩)) | (have K9 := K1 (.inr ⟨h11, h12⟩); simp only [↓if_neg h11, ↓if_pos h12] at K9 ⊢; exact (K9)))
    · intro h13
      refine w_iincN (n := k) (l1 := [.ref 134, .int (nI x), UU, UU, UU, UU, UU, .int am, .int o1, .int o2, .int (nI (k + 1))]) 1 i_125_155 rfl rfl ?_
      refine w_goto i_125_158 ?_
      exact (k2 h11 h13)
theorem i_124_0 : ins 124 0 = some (.iload_n 1, 1, 1, 0, 0, 0) := rfl
theorem i_124_1 : ins 124 1 = some (.iconst (-1), 2, 0, 0, 0, (-1)) := rfl
theorem i_124_2 : ins 124 2 = some (.if_icmp .eq 36, 5, 38, 0, 0, 0) := rfl
theorem i_124_5 : ins 124 5 = some (.iload_n 1, 6, 1, 0, 0, 0) := rfl
theorem i_124_6 : ins 124 6 = some (.ifCond .lt 36, 9, 42, 0, 0, 0) := rfl
theorem i_124_9 : ins 124 9 = some (.aload_n 0, 10, 0, 0, 0, 0) := rfl
theorem i_124_10 : ins 124 10 = some (.getfield 81, 13, 7, 27, 0, 0) := rfl
theorem i_124_13 : ins 124 13 = some (.iload_n 1, 14, 1, 0, 0, 0) := rfl
theorem i_124_14 : ins 124 14 = some (.iaload, 15, 0, 0, 0, 0) := rfl
theorem i_124_15 : ins 124 15 = some (.iconst 1, 16, 0, 0, 0, 1) := rfl
theorem i_124_16 : ins 124 16 = some (.if_icmp .ne 26, 19, 42, 0, 0, 0) := rfl
theorem i_124_19 : ins 124 19 = some (.aload_n 0, 20, 0, 0, 0, 0) := rfl
theorem i_124_20 : ins 124 20 = some (.getfield 87, 23, 7, 29, 0, 0) := rfl
theorem i_124_23 : ins 124 23 = some (.iload_n 1, 24, 1, 0, 0, 0) := rfl
theorem i_124_24 : ins 124 24 = some (.iaload, 25, 0, 0, 0, 0) := rfl
theorem i_124_25 : ins 124 25 = some (.iload_n 2, 26, 2, 0, 0, 0) := rfl
theorem i_124_26 : ins 124 26 = some (.if_icmp .ne 16, 29, 42, 0, 0, 0) := rfl
theorem i_124_29 : ins 124 29 = some (.aload_n 0, 30, 0, 0, 0, 0) := rfl
theorem i_124_30 : ins 124 30 = some (.getfield 96, 33, 7, 32, 0, 0) := rfl
theorem i_124_33 : ins 124 33 = some (.iload_n 1, 34, 1, 0, 0, 0) := rfl
theorem i_124_34 : ins 124 34 = some (.iaload, 35, 0, 0, 0, 0) := rfl
theorem i_124_35 : ins 124 35 = some (.ifCond .ne 7, 38, 42, 0, 0, 0) := rfl
theorem i_124_38 : ins 124 38 = some (.iconst 1, 39, 0, 0, 0, 1) := rfl
theorem i_124_39 : ins 124 39 = some (.goto 4, 42, 43, 0, 0, 0) := rfl
theorem i_124_42 : ins 124 42 = some (.iconst 0, 43, 0, 0, 0, 0) := rfl
theorem i_124_43 : ins 124 43 = some (.ireturn, 44, 0, 0, 0, 0) := rfl
theorem S124_0 {Q : Ou → Prop} {M : Mem} {κ : Kp} (hκ : Rd κ)  {w : Int32} {v : Int32}
    (o1 : ¬ (w = (-1)) → ¬ (w < 0) → vp_in w 60)
    (k1 : Q (.inl (some (.int (bI (if w = (-1) then true else (if w < 0 then false else (if (M 152 w.toNatClampNeg) = 1 then (if (M 154 w.toNatClampNeg) = v then (if (M 157 w.toNatClampNeg) = 0 then true else false) else false) else false)))))), M, κ))
    : RT 124 (0, [.ref 134, .int w, .int v], [], M, κ) Q := by
  refine w_load i_124_0 rfl rfl ?_
  refine w_push i_124_1 rfl ?_
  have K1 : RT 124 (43, [.ref 134, .int w, .int v], [.int (bI (if w = (-1) then true else (if w < 0 then false else (if (M 152 w.toNatClampNeg) = 1 then (if (M 154 w.toNatClampNeg) = v then (if (M 157 w.toNatClampNeg) = 0 then true else false) else false) else false))))], M, κ) Q := by
    exact w_iret i_124_43 (.inr ⟨rfl, isB_bI _⟩) (k1)
  refine w_if2 (w = (-1)) i_124_2 cI_eq ?_ ?_
  · intro h2
    refine w_push i_124_38 rfl ?_
    refine w_goto i_124_39 ?_
    exact (by first | exact (K1) | (have K9 := K1; simp only [↓if_pos h2] at K9 ⊢; exact (K9)))
  · intro h3
    refine w_load i_124_5 rfl rfl ?_
    refine w_if0 (w < 0) i_124_6 cI0_lt ?_ ?_
    · intro h4
      refine w_push i_124_42 rfl ?_
      exact (by first | exact (K1) | (have K9 := K1; simp only [↓if_neg h3, ↓if_pos h4] at K9 ⊢; exact (K9)))
    · intro h5
      refine w_load i_124_9 rfl rfl ?_
      refine w_getR 152 i_124_10 hκ (⟨rfl, by decide⟩ : isOb 134 7) rfl rfl ?_
      refine w_load i_124_13 rfl rfl ?_
      refine w_iald (v := (M 152 w.toNatClampNeg)) i_124_14 hκ (⟨rfl, rfl, by decide⟩ : isAr 152 60) (o1 h3 h5) (rfl) ?_
      refine w_push i_124_15 rfl ?_
      refine w_if2n ((M 152 w.toNatClampNeg) = 1) i_124_16 cI_ne ?_ ?_
      · intro h6
        refine w_load i_124_19 rfl rfl ?_
        refine w_getR 154 i_124_20 hκ (⟨rfl, by decide⟩ : isOb 134 7) rfl rfl ?_
        refine w_load i_124_23 rfl rfl ?_
        refine w_iald (v := (M 154 w.toNatClampNeg)) i_124_24 hκ (⟨rfl, rfl, by decide⟩ : isAr 154 60) (o1 h3 h5) (rfl) ?_
        refine w_load i_124_25 rfl rfl ?_
        refine w_if2n ((M 154 w.toNatClampNeg) = v) i_124_26 cI_ne ?_ ?_
        · intro h7
          refine w_load i_124_29 rfl rfl ?_
          refine w_getR 157 i_124_30 hκ (⟨rfl, by decide⟩ : isOb 134 7) rfl rfl ?_
          refine w_load i_124_33 rfl rfl ?_
          refine w_iald (v := (M 157 w.toNatClampNeg)) i_124_34 hκ (⟨rfl, rfl, by decide⟩ : isAr 157 60) (o1 h3 h5) (rfl) ?_
          refine w_if0n ((M 157 w.toNatClampNeg) = 0) i_124_35 cI0_ne ?_ ?_
          · intro h8
            refine w_push i_124_38 rfl ?_
            refine w_goto i_124_39 ?_
            exact (by first | exact (K1) | (have K9 := K1; simp only [↓if_neg h3, ↓if_neg h5, ↓if_pos h6, ↓if_pos h7, ↓if_pos h8] at K9 ⊢; exact (K9)))
          · intro h9
            refine w_push i_124_42 rfl ?_
            exact (by first | exact (K1) | (have K9 := K1; simp only [↓if_neg h3, ↓if_neg h5, ↓if_pos h6, ↓if_pos h7, ↓if_neg h9] at K9 ⊢; exact (K9)))
        · intro h10
          refine w_push i_124_42 rfl ?_
          exact (by first | exact (K1) | (have K9 := K1; simp only [↓if_neg h3, ↓if_neg h5, ↓if_pos h6, ↓if_neg h10] at K9 ⊢; exact (K9)))
      · intro h11
        refine w_push i_124_42 rfl ?_
        exact (by first | exact (K1) | (have K9 := K1; simp only [↓if_neg h3, ↓if_neg h5, ↓if_neg h11] at K9 ⊢; exact (K9)))
end P_22_meet
