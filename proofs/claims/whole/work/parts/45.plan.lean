/-! PLANS: the class plans its blocks -/
section P_45_plan
theorem i_58_0 : ins 58 0 = some (.aload_n 0, 1, 0, 0, 0, 0) := rfl
theorem i_58_1 : ins 58 1 = some (.getfield 18, 4, 5, 2, 0, 0) := rfl
theorem i_58_4 : ins 58 4 = some (.ifCond .le 10, 7, 14, 0, 0, 0) := rfl
theorem i_58_7 : ins 58 7 = some (.aload_n 0, 8, 0, 0, 0, 0) := rfl
theorem i_58_8 : ins 58 8 = some (.getfield 18, 11, 5, 2, 0, 0) := rfl
theorem i_58_11 : ins 58 11 = some (.goto 7, 14, 18, 0, 0, 0) := rfl
theorem i_58_14 : ins 58 14 = some (.aload_n 0, 15, 0, 0, 0, 0) := rfl
theorem i_58_15 : ins 58 15 = some (.getfield 9, 18, 5, 0, 0, 0) := rfl
theorem i_58_18 : ins 58 18 = some (.ireturn, 19, 0, 0, 0, 0) := rfl
theorem S58_0 {Q : Ou → Prop} {M : Mem} {κ : Kp} (hκ : Rd κ) {p : Nat} (hp : isPl p) 
    (k1 : Q (.inl (some (.int (if 0 < (M p 2) then (M p 2) else (M p 0)))), M, κ))
    : RT 58 (0, [.ref p], [], M, κ) Q := by
  refine w_load i_58_0 rfl rfl ?_
  refine w_getI (v := (M p 2)) i_58_1 hκ (pl_ob hp) rfl (rfl) ?_
  have K1 : RT 58 (18, [.ref p], [.int (if 0 < (M p 2) then (M p 2) else (M p 0))], M, κ) Q := by
    exact w_iret i_58_18 (.inl rfl) (k1)
  refine w_if0n (0 < (M p 2)) i_58_4 cI0_le ?_ ?_
  · intro h2
    refine w_load i_58_7 rfl rfl ?_
    refine w_getI (v := (M p 2)) i_58_8 hκ (pl_ob hp) rfl (rfl) ?_
    refine w_goto i_58_11 ?_
    exact (by first | exact (K1) | (have K9 := K1; simp only [↓if_pos h2] at K9 ⊢; exact (K9)))
  · intro h3
    refine w_load i_58_14 rfl rfl ?_
    refine w_getI (v := (M p 0)) i_58_15 hκ (pl_ob hp) rfl (rfl) ?_
    exact (by first | exact (K1) | (have K9 := K1; simp only [↓if_neg h3] at K9 ⊢; exact (K9)))
theorem i_90_0 : ins 90 0 = some (.iconst 0, 1, 0, 0, 0, 0) := rfl
theorem i_90_1 : ins 90 1 = some (.istore_n 1, 2, 1, 0, 0, 0) := rfl
theorem i_90_2 : ins 90 2 = some (.iconst 0, 3, 0, 0, 0, 0) := rfl
theorem i_90_3 : ins 90 3 = some (.istore_n 2, 4, 2, 0, 0, 0) := rfl
theorem S90_0 {Q : Ou → Prop} {M : Mem} {κ : Kp} (hκ : Rd κ)  
    (k1 : RT 90 (4, [.ref 0, .int 0, .int (nI 0)], [], M, κ) Q)
    : RT 90 (0, [.ref 0, UU, UU], [], M, κ) Q := by
  refine w_push i_90_0 rfl ?_
  refine w_store (l1 := [.ref 0, .int 0, UU]) i_90_1 rfl (Nat.le_of_ble_eq_true rfl) rfl ?_
  refine w_push i_90_2 rfl ?_
  refine w_store (l1 := [.ref 0, .int 0, .int 0]) i_90_3 rfl (Nat.le_of_ble_eq_true rfl) rfl ?_
  exact (k1)
theorem i_90_4 : ins 90 4 = some (.iload_n 2, 5, 2, 0, 0, 0) := rfl
theorem i_90_5 : ins 90 5 = some (.aload_n 0, 6, 0, 0, 0, 0) := rfl
theorem i_90_6 : ins 90 6 = some (.getfield 47, 9, 6, 6, 0, 0) := rfl
theorem i_90_9 : ins 90 9 = some (.if_icmp .ge 80, 12, 89, 0, 0, 0) := rfl
theorem i_90_12 : ins 90 12 = some (.aload_n 0, 13, 0, 0, 0, 0) := rfl
theorem i_90_13 : ins 90 13 = some (.getfield 22, 16, 6, 2, 0, 0) := rfl
theorem i_90_16 : ins 90 16 = some (.iload_n 2, 17, 2, 0, 0, 0) := rfl
theorem i_90_17 : ins 90 17 = some (.aaload, 18, 0, 0, 0, 0) := rfl
theorem i_90_18 : ins 90 18 = some (.getfield 206, 21, 0, 5, 0, 0) := rfl
theorem i_90_21 : ins 90 21 = some (.ifCond .ne 62, 24, 83, 0, 0, 0) := rfl
theorem i_90_24 : ins 90 24 = some (.aload_n 0, 25, 0, 0, 0, 0) := rfl
theorem i_90_25 : ins 90 25 = some (.getfield 36, 28, 6, 4, 0, 0) := rfl
theorem i_90_28 : ins 90 28 = some (.aload_n 0, 29, 0, 0, 0, 0) := rfl
theorem i_90_29 : ins 90 29 = some (.getfield 22, 32, 6, 2, 0, 0) := rfl
theorem i_90_32 : ins 90 32 = some (.iload_n 2, 33, 2, 0, 0, 0) := rfl
theorem i_90_33 : ins 90 33 = some (.aaload, 34, 0, 0, 0, 0) := rfl
theorem i_90_34 : ins 90 34 = some (.aload_n 0, 35, 0, 0, 0, 0) := rfl
theorem i_90_35 : ins 90 35 = some (.getfield 10, 38, 6, 0, 0, 0) := rfl
theorem i_90_38 : ins 90 38 = some (.invokevirtual 239, 41, 18, 0, 3, 0) := rfl
theorem i_90_83 : ins 90 83 = some (.iinc 2 1, 86, 2, 0, 0, 1) := rfl
theorem i_90_86 : ins 90 86 = some (.goto (-82), 89, 4, 0, 0, 0) := rfl
theorem i_90_89 : ins 90 89 = some (.iload_n 1, 90, 1, 0, 0, 0) := rfl
theorem i_90_90 : ins 90 90 = some (.ireturn, 91, 0, 0, 0, 0) := rfl
theorem S90_4 {Q : Ou → Prop} {M : Mem} {κ : Kp} (hκ : Rd κ) {nb x : Nat} (hx : x ≤ nb) (hnb6 : nb ≤ 6) (hnb : M 0 6 = nI nb) {bu : Int32}
    (k1 : x < nb → (M (12 + 18 * x) 5) = 0 → RT 18 (0, entL 18 [.ref 113, .ref (12 + 18 * x), .ref 1], [], M, κ) (fun o => ∃ v M1 κ1, o = (.inl v, M1, κ1) ∧ RT 90 (41, [.ref 0, .int bu, .int (nI x)], v.toList ++ [], M1, κ1) Q))
    (k2 : x < nb → ¬ ((M (12 + 18 * x) 5) = 0) → RT 90 (4, [.ref 0, .int bu, .int (nI (x + 1))], [], M, κ) Q)
    (k3 : ¬ (x < nb) → Q (.inl (some (.int bu)), M, κ))
    : RT 90 (4, [.ref 0, .int bu, .int (nI x)], [], M, κ) Q := by
  refine w_load i_90_4 rfl rfl ?_
  refine w_load i_90_5 rfl rfl ?_
  refine w_getI (v := (nI nb)) i_90_6 hκ (⟨rfl, by decide⟩ : isOb 0 6) rfl (hnb) ?_
  refine w_if2n (x < nb) i_90_9 (cN_ge (a := x) (b := nb) (by omega) (by omega)) ?_ ?_
  · intro h1
    refine w_load i_90_12 rfl rfl ?_
    refine w_getR 3 i_90_13 hκ (⟨rfl, by decide⟩ : isOb 0 6) rfl rfl ?_
    refine w_load i_90_16 rfl rfl ?_
    refine w_aaldN (e := x) (12 + 18 * x) i_90_17 hκ (⟨by decide, by decide⟩ : (kd 3 = 22 ∨ kd 3 = 23) ∧ 3 < 180) (by omega) rfl ?_
    refine w_getI (v := (M (12 + 18 * x) 5)) i_90_18 hκ (bl_ob (bl_b (by omega : x < 6))) rfl (rfl) ?_
    refine w_if0n ((M (12 + 18 * x) 5) = 0) i_90_21 cI0_ne ?_ ?_
    · intro h2
      refine w_load i_90_24 rfl rfl ?_
      refine w_getR 113 i_90_25 hκ (⟨rfl, by decide⟩ : isOb 0 6) rfl rfl ?_
      refine w_load i_90_28 rfl rfl ?_
      refine w_getR 3 i_90_29 hκ (⟨rfl, by decide⟩ : isOb 0 6) rfl rfl ?_
      refine w_load i_90_32 rfl rfl ?_
      refine w_aaldN (e := x) (12 + 18 * x) i_90_33 hκ (⟨by decide, by decide⟩ : (kd 3 = 22 ∨ kd 3 = 23) ∧ 3 < 180) (by omega) rfl ?_
      refine w_load i_90_34 rfl rfl ?_
      refine w_getR 1 i_90_35 hκ (⟨rfl, by decide⟩ : isOb 0 6) rfl rfl ?_
      exact w_callVI (i := _) i_90_38 ⟨by decide, by decide, by decide, rfl⟩ hκ (⟨rfl, by decide⟩ : isOb 113 1) (av := [.ref (12 + 18 * x), .ref 1]) (rest := []) rfl rfl (Nat.le_of_ble_eq_true rfl) (k1 h1 h2)
    · intro h3
      refine w_iincN (n := x) (l1 := [.ref 0, .int bu, .int (nI (x + 1))]) 1 i_90_83 rfl rfl ?_
      refine w_goto i_90_86 ?_
      exact (k2 h1 h3)
  · intro h4
    refine w_load i_90_89 rfl rfl ?_
    exact w_iret i_90_90 (.inl rfl) (k3 h4)
theorem i_90_41 : ins 90 41 = some (.aload_n 0, 42, 0, 0, 0, 0) := rfl
theorem i_90_42 : ins 90 42 = some (.getfield 36, 45, 6, 4, 0, 0) := rfl
theorem i_90_45 : ins 90 45 = some (.aload_n 0, 46, 0, 0, 0, 0) := rfl
theorem i_90_46 : ins 90 46 = some (.getfield 27, 49, 6, 3, 0, 0) := rfl
theorem i_90_49 : ins 90 49 = some (.iload_n 2, 50, 2, 0, 0, 0) := rfl
theorem i_90_50 : ins 90 50 = some (.aaload, 51, 0, 0, 0, 0) := rfl
theorem i_90_51 : ins 90 51 = some (.invokestatic 243, 54, 30, 1, 2, 0) := rfl
theorem i_90_54 : ins 90 54 = some (.aload_n 0, 55, 0, 0, 0, 0) := rfl
theorem i_90_55 : ins 90 55 = some (.getfield 43, 58, 6, 5, 0, 0) := rfl
theorem i_90_58 : ins 90 58 = some (.aload_n 0, 59, 0, 0, 0, 0) := rfl
theorem i_90_59 : ins 90 59 = some (.getfield 36, 62, 6, 4, 0, 0) := rfl
theorem i_90_62 : ins 90 62 = some (.aload_n 0, 63, 0, 0, 0, 0) := rfl
theorem i_90_63 : ins 90 63 = some (.getfield 27, 66, 6, 3, 0, 0) := rfl
theorem i_90_66 : ins 90 66 = some (.iload_n 2, 67, 2, 0, 0, 0) := rfl
theorem i_90_67 : ins 90 67 = some (.aaload, 68, 0, 0, 0, 0) := rfl
theorem i_90_68 : ins 90 68 = some (.invokevirtual 249, 71, 37, 0, 3, 0) := rfl
theorem i_90_71 : ins 90 71 = some (.iload_n 1, 72, 1, 0, 0, 0) := rfl
theorem i_90_72 : ins 90 72 = some (.aload_n 0, 73, 0, 0, 0, 0) := rfl
theorem i_90_73 : ins 90 73 = some (.getfield 27, 76, 6, 3, 0, 0) := rfl
theorem i_90_76 : ins 90 76 = some (.iload_n 2, 77, 2, 0, 0, 0) := rfl
theorem i_90_77 : ins 90 77 = some (.aaload, 78, 0, 0, 0, 0) := rfl
theorem i_90_78 : ins 90 78 = some (.invokevirtual 203, 81, 58, 0, 1, 0) := rfl
theorem i_90_81 : ins 90 81 = some (.iadd, 82, 0, 0, 0, 0) := rfl
theorem i_90_82 : ins 90 82 = some (.istore_n 1, 83, 1, 0, 0, 0) := rfl
theorem S90_41 {Q : Ou → Prop} {M : Mem} {κ : Kp} (hκ : Rd κ) {x : Nat} (hx : x < 6) {bu : Int32}
    (k1 : RT 30 (0, entL 30 [.ref 113, .ref (19 + 18 * x)], [], M, κ) (fun o => ∃ v M1 κ1, o = (.inl v, M1, κ1) ∧ RT 90 (54, [.ref 0, .int bu, .int (nI x)], v.toList ++ [], M1, κ1) Q))
    : RT 90 (41, [.ref 0, .int bu, .int (nI x)], [], M, κ) Q := by
  refine w_load i_90_41 rfl rfl ?_
  refine w_getR 113 i_90_42 hκ (⟨rfl, by decide⟩ : isOb 0 6) rfl rfl ?_
  refine w_load i_90_45 rfl rfl ?_
  refine w_getR 4 i_90_46 hκ (⟨rfl, by decide⟩ : isOb 0 6) rfl rfl ?_
  refine w_load i_90_49 rfl rfl ?_
  refine w_aaldN (e := x) (19 + 18 * x) i_90_50 hκ (⟨by decide, by decide⟩ : (kd 4 = 22 ∨ kd 4 = 23) ∧ 4 < 180) (by omega) rfl ?_
  exact w_callSI i_90_51 ⟨by decide, by decide, by decide, rfl, rfl⟩ (av := [.ref 113, .ref (19 + 18 * x)]) (rest := []) rfl rfl (Nat.le_of_ble_eq_true rfl) (k1)
theorem S90_54 {Q : Ou → Prop} {M : Mem} {κ : Kp} (hκ : Rd κ) {x : Nat} (hx : x < 6) {bu : Int32}
    (k1 : RT 37 (0, entL 37 [.ref 122, .ref 113, .ref (19 + 18 * x)], [], M, κ) (fun o => ∃ v M1 κ1, o = (.inl v, M1, κ1) ∧ RT 90 (71, [.ref 0, .int bu, .int (nI x)], v.toList ++ [], M1, κ1) Q))
    : RT 90 (54, [.ref 0, .int bu, .int (nI x)], [], M, κ) Q := by
  refine w_load i_90_54 rfl rfl ?_
  refine w_getR 122 i_90_55 hκ (⟨rfl, by decide⟩ : isOb 0 6) rfl rfl ?_
  refine w_load i_90_58 rfl rfl ?_
  refine w_getR 113 i_90_59 hκ (⟨rfl, by decide⟩ : isOb 0 6) rfl rfl ?_
  refine w_load i_90_62 rfl rfl ?_
  refine w_getR 4 i_90_63 hκ (⟨rfl, by decide⟩ : isOb 0 6) rfl rfl ?_
  refine w_load i_90_66 rfl rfl ?_
  refine w_aaldN (e := x) (19 + 18 * x) i_90_67 hκ (⟨by decide, by decide⟩ : (kd 4 = 22 ∨ kd 4 = 23) ∧ 4 < 180) (by omega) rfl ?_
  exact w_callVI (i := _) i_90_68 ⟨by decide, by decide, by decide, rfl⟩ hκ (⟨rfl, by decide⟩ : isOb 122 3) (av := [.ref 113, .ref (19 + 18 * x)]) (rest := []) rfl rfl (Nat.le_of_ble_eq_true rfl) (k1)
theorem S90_71 {Q : Ou → Prop} {M : Mem} {κ : Kp} (hκ : Rd κ) {x : Nat} (hx : x < 6) {bu : Int32} {r_78 : Int32}
    (o1 : Run 58 (0, entL 58 [.ref (19 + 18 * x)], [], M, κ) (.inl (some (.int r_78)), M, κ))
    (k1 : RT 90 (4, [.ref 0, .int (bu + r_78), .int (nI (x + 1))], [], M, κ) Q)
    : RT 90 (71, [.ref 0, .int bu, .int (nI x)], [], M, κ) Q := by
  refine w_load i_90_71 rfl rfl ?_
  refine w_load i_90_72 rfl rfl ?_
  refine w_getR 4 i_90_73 hκ (⟨rfl, by decide⟩ : isOb 0 6) rfl rfl ?_
  refine w_load i_90_76 rfl rfl ?_
  refine w_aaldN (e := x) (19 + 18 * x) i_90_77 hκ (⟨by decide, by decide⟩ : (kd 4 = 22 ∨ kd 4 = 23) ∧ 4 < 180) (by omega) rfl ?_
  refine w_callV (i := _) i_90_78 ⟨by decide, by decide, by decide, rfl⟩ hκ (pl_ob (pl_of (by omega : x < 6))) (av := []) (rest := [.int bu]) rfl rfl (Nat.le_of_ble_eq_true rfl) (v := some (.int r_78)) (o1) ?_
  refine w_bin (w := (bu + r_78)) i_90_81 rfl rfl ?_
  refine w_store (l1 := [.ref 0, .int (bu + r_78), .int (nI x)]) i_90_82 rfl (Nat.le_of_ble_eq_true rfl) rfl ?_
  refine w_iincN (n := x) (l1 := [.ref 0, .int (bu + r_78), .int (nI (x + 1))]) 1 i_90_83 rfl rfl ?_
  refine w_goto i_90_86 ?_
  exact (k1)
variable {Q : Ou → Prop} {M M0 : Mem} {κ : Kp}
theorem endF_rng {n : Nat} {c L : Nat → Int32} (hL : Lok L n) (hc : ∀ k, k < n → ∃ a, c k = nI a ∧ a ≤ 72) : ∃ len, len ≤ 80 ∧ endF c L n = nI len ∧ ∀ k, k < n → (c k).toInt + (L k).toInt ≤ len := by
  have key : ∀ m, m ≤ n → ∃ len : Nat, len ≤ 80 ∧ fo (fun k m => mx m (c k + L k)) 0 m = nI len ∧ ∀ k, k < m → (c k).toInt + (L k).toInt ≤ len := fun m => by
    induction m with
    | zero => exact fun _ => ⟨0, by omega, rfl, fun k hk => absurd hk (Nat.not_lt_zero k)⟩
    | succ m ih =>
      intro hm
      obtain ⟨len, h1, h2, h3⟩ := ih (by omega)
      obtain ⟨a, h4, h5⟩ := hc m (by omega)
      have h6 := hL m (by omega)
      have ta : (c m).toInt = a := by rw [h4, nI_toInt (by omega)]
      have hs : (c m + L m).toInt = a + (L m).toInt := by rw [l_add (by omega) (by omega), ta]
      refine ⟨max len (a + (L m).toInt.toNat), by omega, ?_, fun k hk => ?_⟩
      · rw [fo_suc, h2]
        apply Int32.toInt_inj.mp
        rw [mx_toInt, nI_toInt (by omega), nI_toInt (by omega), hs]
        omega
      · by_cases e : k = m
        · rw [e, ta]
          omega
        · have := h3 k (by omega)
          omega
  exact key n (Nat.le_refl n)
/-- units and latencies of a machine -/
abbrev Mp : Type := (Bool → Nat) × Int32 × Int32 × Int32 × Int32
def LtO (mp : Mp) (O : Op) : Nat → Int32 := fun k => latF mp.2.1 mp.2.2.1 mp.2.2.2.1 mp.2.2.2.2 (O 0 k)
def MpOk (mp : Mp) : Prop := (1 ≤ mp.1 false ∧ mp.1 false ≤ 4) ∧ (1 ≤ mp.1 true ∧ mp.1 true ≤ 2) ∧ (1 ≤ mp.2.1.toInt ∧ mp.2.1.toInt ≤ 8) ∧ (1 ≤ mp.2.2.1.toInt ∧ mp.2.2.1.toInt ≤ 8) ∧ (1 ≤ mp.2.2.2.1.toInt ∧ mp.2.2.2.1.toInt ≤ 8) ∧ (1 ≤ mp.2.2.2.2.toInt ∧ mp.2.2.2.2.toInt ≤ 8)
def CMp (M : Mem) (mp : Mp) : Prop := M 1 0 = nI (mp.1 false) ∧ M 1 1 = nI (mp.1 true) ∧ M 1 2 = mp.2.1 ∧ M 1 3 = mp.2.2.1 ∧ M 1 4 = mp.2.2.2.1 ∧ M 1 5 = mp.2.2.2.2
def MMp (M : Mem) (mp : Mp) : Prop := M 134 1 = nI (mp.1 false) ∧ M 134 2 = nI (mp.1 true) ∧ M 134 3 = mp.2.1 ∧ M 134 4 = mp.2.2.1 ∧ M 134 5 = mp.2.2.2.1 ∧ M 134 6 = mp.2.2.2.2
theorem MpU {mp : Mp} (h : MpOk mp) : ∀ b, 1 ≤ mp.1 b ∧ mp.1 b ≤ 4 := fun b => by
  have h1 := h.1
  have h2 := h.2.1
  cases b with
  | false => exact h1
  | true => omega
theorem LtO_ok {mp : Mp} (h : MpOk mp) (O : Op) (n : Nat) : Lok (LtO mp O) n := fun k _ => by
  obtain ⟨_, _, h1, h2, h3, h4⟩ := h
  unfold LtO latF
  have h5 : 1 ≤ (1 : Int32).toInt ∧ (1 : Int32).toInt ≤ 8 := by decide
  repeat' split
  all_goals assumption
/-- what a plan of the class is -/
def PC (M : Mem) (mp : Mp) (e : Int32) (n : Nat) (O : Op) (p : Nat) : Prop := ∃ (c : Nat → Int32) (t0 len : Nat), (∀ k, k < n → M (p + 1) k = gb (Wt 0 0 n (decide (e = 3)) O (LtO mp O)) (M (p + 1)) k (LtO mp O k) n) ∧ (∀ i, i < n → M (p + 2) i = c i) ∧ Lr n (Wt 0 0 n (decide (e = 3)) O (LtO mp O)) (M (p + 1)) (PO O) mp.1 c t0 ∧ Linv n c t0 ∧ sch c n = n ∧ M p 0 = nI len ∧ endF c (LtO mp O) n = nI len ∧ len ≤ 80 ∧ MR n (WF7 n (decide (e = 3)) O (LtO mp O)) (PO O) mp.1 (LtO mp O) (decide (e = 3)) len (M p 1) (M p 2) (M p 3) (M p 4) (M (p + 3))
theorem PC_eq {M' : Mem} {mp : Mp} {e : Int32} {n : Nat} {O : Op} {p : Nat} (h : PC M mp e n O p) (he : ∀ o j, p ≤ o ∧ o ≤ p + 3 → M' o j = M o j) : PC M' mp e n O p := by
  have e1 : M' (p + 1) = M (p + 1) := funext fun j => he _ j (by omega)
  have e2 : M' (p + 2) = M (p + 2) := funext fun j => he _ j (by omega)
  have e3 : M' (p + 3) = M (p + 3) := funext fun j => he _ j (by omega)
  have e0 : M' p = M p := funext fun j => he _ j (by omega)
  unfold PC
  rw [e1, e2, e3, e0]
  exact h
theorem W0_lt {n : Nat} {O : Op} {L : Nat → Int32} {lp : Bool} (hL : Lok L n) : ∀ i j, i < n → j < n → Wt 0 0 n lp O L i j ≠ none → i < j := fun i j hi hj hne => by
  cases q : Wt 0 0 n lp O L i j with
  | none => exact absurd q hne
  | some w =>
    by_cases c : i < j
    · exact c
    · exfalso
      rcases omx_some q with q | q
      · cases q2 : uE L O lp i j with
        | none => rw [q2] at q; cases q
        | some p =>
          obtain ⟨d, r⟩ := p
          rw [q2] at q
          have h3 := (uE_some hL hi hj q2).2.1
          rw [if_neg c] at h3
          subst h3
          have : wE 0 0 (some (d, nI 1)) = none := (if_pos (show (0 : Int32) < nI 1 by decide) : (if (0 : Int32) < nI 1 then none else some (d - 0 * nI 1)) = none)
          rw [this] at q
          cases q
      · cases q2 : mE O n lp i j with
        | none => rw [q2] at q; cases q
        | some p =>
          obtain ⟨d, r⟩ := p
          rw [q2] at q
          have h3 := mE_some q2
          have h4 := mt_first (by rw [← h3.2.2.1]; exact h3.2.2.2) c
          rw [← h3.2.2.1] at h4
          have : wE 0 0 (some (d, r)) = none := if_pos (by rw [ltI, c0]; omega)
          rw [this] at q
          cases q
theorem G2_eq {M' : Mem} {n : Nat} {lp : Bool} {O : Op} {L : Nat → Int32} {i j : Nat} (h : G2 M n lp O L i j) (he : ∀ o x, 116 ≤ o ∧ o ≤ 117 → M' o x = M o x) : G2 M' n lp O L i j := fun a c ha hc hh => ⟨Ed_eq (he _ _ (by decide)) (he _ _ (by decide)) (h a c ha hc hh).1, Ed_eq (he _ _ (by decide)) (he _ _ (by decide)) (h a c ha hc hh).2⟩
theorem c58 (hκ : Rd κ) {p : Nat} (hp : isPl p) : Run 58 (0, entL 58 [.ref p], [], M, κ) (.inl (some (.int (if 0 < M p 2 then M p 2 else M p 0))), M, κ) := RT_run (S58_0 hκ hp rfl)
/-- what planning a block leaves alone -/
def frP (p : Nat) (M0 M : Mem) : Prop := ∀ o j, ¬ ((113 ≤ o ∧ o ≤ 121) ∨ (123 ≤ o ∧ o ≤ 125) ∨ (p ≤ o ∧ o ≤ p + 3)) → M o j = M0 o j
section PL
variable {v : Nat → Int32} {f : Nat → Nat} {nb : Nat} {s : Ss} {mp : Mp}
/-- how many bundles there are -/
def rowsC (M : Mem) (s : Ss) (m : Nat) : Int32 := fo (fun x acc => if s.2.2.2.1 x = true then acc else acc + (if 0 < M (19 + 18 * x) 2 then M (19 + 18 * x) 2 else M (19 + 18 * x) 0)) 0 m
def frQ (M0 M : Mem) : Prop := ∀ o j, ¬ ((113 ≤ o ∧ o ≤ 121) ∨ (123 ≤ o ∧ o ≤ 125) ∨ ∃ x, x < 6 ∧ 19 + 18 * x ≤ o ∧ o ≤ 22 + 18 * x) → M o j = M0 o j
theorem f90 (hκ : Rd κ) (hnb6 : nb ≤ 6) (hnb : M0 0 6 = nI nb) (hB : BRl v f nb M0 s) (hI : SIv v f nb s) (hm : MpOk mp) (hC : CMp M0 mp)
    (K : ∀ M, frQ M0 M → (∀ x, x < nb → s.2.2.2.1 x = false → PC M mp (s.1 x) (s.2.2.1 x) (s.2.2.2.2 x) (19 + 18 * x)) → Q (.inl (some (.int (rowsC M s nb))), M, κ)) : RT 90 (0, entL 90 [.ref 0], [], M0, κ) Q := by
  refine S90_0 hκ ?_
  refine loopI (n := nb) (fun x (a : Mem × Int32) => RT 90 (4, [.ref 0, .int a.2, .int (nI x)], [], a.1, κ) Q) (fun x a => frQ M0 a.1 ∧ (∀ y, y < x → s.2.2.2.1 y = false → PC a.1 mp (s.1 y) (s.2.2.1 y) (s.2.2.2.2 y) (19 + 18 * y)) ∧ a.2 = rowsC a.1 s x) (fun x a hx hJ ih => ?_) (fun a hJ => ?_) 0 (M0, 0) (Nat.zero_le _) ⟨fun _ _ _ => rfl, fun y hy => absurd hy (Nat.not_lt_zero y), rfl⟩
  · obtain ⟨M, acc⟩ := a
    obtain ⟨h1, h2, h3⟩ := hJ
    dsimp only at h1 h2 h3 ⊢
    have nq : ∀ o, (o < 19 ∨ o = 122 ∨ 125 < o ∨ ∃ z, z < 6 ∧ 12 + 18 * z ≤ o ∧ o ≤ 18 + 18 * z) → ¬ ((113 ≤ o ∧ o ≤ 121) ∨ (123 ≤ o ∧ o ≤ 125) ∨ ∃ x, x < 6 ∧ 19 + 18 * x ≤ o ∧ o ≤ 22 + 18 * x) := fun o h c => by
      rcases c with c | c | ⟨y, c1, c2, c3⟩ <;> rcases h with h | h | h | ⟨z, d1, d2, d3⟩ <;> omega
    have bX := hB x hx
    have iX := hI.1 x hx
    have hgo : M (12 + 18 * x) 5 = bI (s.2.2.2.1 x) := (h1 _ _ (nq _ (.inr (.inr (.inr ⟨x, by omega, by omega, by omega⟩))))).trans bX.2.2.2.2.2.1
    refine S90_4 hκ (by omega) hnb6 ((h1 _ _ (nq _ (by omega))).trans hnb) (fun _ hg => ?_) (fun _ hg => ih (M, acc) ⟨h1, fun y hy hgy => ?_, ?_⟩) (fun c => absurd hx c)
    · rw [hgo] at hg
      have hg0 : s.2.2.2.1 x = false := Bool.eq_false_iff.mpr (bI_z.mp hg)
      obtain ⟨n, hn⟩ : ∃ n, n = s.2.2.1 x := ⟨_, rfl⟩
      obtain ⟨O, hO⟩ : ∃ O, O = s.2.2.2.2 x := ⟨_, rfl⟩
      obtain ⟨e, he⟩ : ∃ e, e = s.1 x := ⟨_, rfl⟩
      have hn10 : n ≤ 10 := hn ▸ iX.2.2.2.2.1
      have hL : Lok (LtO mp O) n := LtO_ok hm O n
      have hw := Wfam_W (lp := decide (e = 3)) (O := O) hn10 hL
      have fB : ∀ j, M (12 + 18 * x) j = M0 (12 + 18 * x) j := fun j => h1 _ _ (nq _ (.inr (.inr (.inr ⟨x, by omega, by omega, by omega⟩))))
      have fm : ∀ j, M 1 j = M0 1 j := fun j => h1 _ _ (nq _ (by omega))
      refine f18 (O := O) (n := n) (L := LtO mp O) (e := e) hκ (bl_b (by omega)) hn10 ((fB _).trans (by rw [hn]; exact bX.2.2.2.2.1)) ((fB _).trans (by rw [he]; exact bX.1)) ((fm _).trans hC.2.2.1) ((fm _).trans hC.2.2.2.1) ((fm _).trans hC.2.2.2.2.1) ((fm _).trans hC.2.2.2.2.2) (fun q hq j hj => (h1 _ _ (nq _ (.inr (.inr (.inr ⟨x, by omega, by omega, by omega⟩))))).trans (by rw [hO]; exact bX.2.2.2.2.2.2 q hq j (hn ▸ hj))) (fun k hk => rfl) hL (fun Ma ga1 ga2 => ⟨none, Ma, κ, rfl, ?_⟩)
      obtain ⟨u1, u2, u3, u4, u5, u6⟩ := ga1
      have hal : Ma 113 2 = nI (mp.1 false) := u4.trans ((fm _).trans hC.1)
      have hpo : Ma 113 3 = nI (mp.1 true) := u5.trans ((fm _).trans hC.2.1)
      have hU := MpU hm
      refine S90_41 hκ (by omega) ?_
      have h00 : 0 ≤ (0 : Int32).toInt ∧ (0 : Int32).toInt ≤ 1000 := by decide
      refine f30 (W := Wt 0 0 n (decide (e = 3)) O (LtO mp O)) (U := mp.1) (Pt := PO O) (L := LtO mp O) hκ (pl_of (by omega)) hn10 u2 hal hpo (fun k hk => (u6 k hk).1) (fun k hk => (u6 k hk).2.1) (fun b => by have := hU b; omega) (fun i j hi hj w hw => Wt_rng h00 hL hi hj w hw) (W0_lt hL) (fun Q' hh => f25 (lp := decide (e = 3)) (O := O) hκ hn10 u2 hL h00 ga2 (fun M' k1 k2 => hh M' k1 (fun i j hi hj => k2 i j hi hj (.inl hi)))) (fun Mb H c t0 b1 b2 b3 b4 b5 b6 b7 b8 b9 => ⟨none, Mb, κ, rfl, ?_⟩)
      have hcr : ∀ k, k < n → ∃ a, c k = nI a ∧ a ≤ 72 := fun k hk => by
        obtain ⟨a, q1, q2, q3⟩ := (Linv_le b7 hn10).2 k hk (sch_full n b8 k hk)
        exact ⟨a, q1, q2⟩
      obtain ⟨len, l1, l2, l3⟩ := endF_rng hL hcr
      have hlen : Mb (19 + 18 * x) 0 = nI len := b9.trans ((endF_congr b5).trans l2)
      have g2b : ∀ M', (∀ o x, 113 ≤ o ∧ o ≤ 117 → M' o x = Mb o x) → M' 113 0 = nI n ∧ G2 M' n (decide (e = 3)) O (LtO mp O) n 0 := fun M' hh => ⟨(hh _ _ (by omega)).trans ((b1 _ _ (by omega)).trans u2), G2_eq ga2 (fun o x ho => (hh o x (by omega)).trans (b1 o x (by omega)))⟩
      refine S90_54 hκ (by omega) ?_
      refine f37 (Wf := WF7 n (decide (e = 3)) O (LtO mp O)) (U := mp.1) (Pt := PO O) (L := LtO mp O) (lp := decide (e = 3)) (len := len) hκ (pl_of (by omega)) hn10 l1 ((b1 _ _ (by omega)).trans u2) ((b1 _ _ (by omega)).trans u3) ((b1 _ _ (by omega)).trans hal) ((b1 _ _ (by omega)).trans hpo) hU (fun k hk => (b1 _ _ (by omega)).trans (u6 k hk).1) (fun k hk => (b1 _ _ (by omega)).trans (u6 k hk).2.1) hw (fun M' hh ii hii Q' hk => f25 (lp := decide (e = 3)) (O := O) (L := LtO mp O) hκ hn10 (g2b M' hh).1 hL (by rw [nI_toInt (by omega)]; omega) (g2b M' hh).2 (fun M'' k1 k2 => hk M'' k1 (fun i j hi hj => k2 i j hi hj (.inl hi)))) hlen (fun Mc c1 c2 => ⟨none, Mc, κ, rfl, ?_⟩)
      have fc : ∀ o j, ¬ ((113 ≤ o ∧ o ≤ 121) ∨ (123 ≤ o ∧ o ≤ 125) ∨ (19 + 18 * x ≤ o ∧ o ≤ 19 + 18 * x + 3)) → Mc o j = M o j := fun o j h => (c1 o j (by omega)).trans ((b1 o j (by omega)).trans (u1 o j (by omega)))
      have hPCx : PC Mc mp (s.1 x) (s.2.2.1 x) (s.2.2.2.2 x) (19 + 18 * x) := by
        rw [← hn, ← hO, ← he]
        have e1 : Mc (19 + 18 * x + 1) = H := (funext fun j => c1 _ j (by omega)).trans b4
        refine ⟨c, t0, len, ?_, fun i hi => (c1 _ _ (by omega)).trans (b5 i hi), ?_, b7, b8, (c1 _ _ (by omega)).trans hlen, l2, l1, c2⟩
        · rw [e1]; exact b3
        · rw [e1]; exact b6
      refine S90_71 hκ (by omega) (c58 hκ (pl_of (by omega))) (ih (Mc, _) ⟨fun o j h => (fc o j (fun c => h ?_)).trans (h1 o j h), fun y hy hgy => ?_, ?_⟩)
      · rcases c with c | c | c
        · exact .inl c
        · exact .inr (.inl c)
        · exact .inr (.inr ⟨x, by omega, by omega, by omega⟩)
      · by_cases ey : y = x
        · rw [ey]; exact hPCx
        · exact PC_eq (h2 y (by omega) hgy) (fun o j h => fc o j (by omega))
      · show acc + _ = rowsC Mc s (x + 1)
        rw [rowsC, fo_suc, hg0, if_neg Bool.false_ne_true, h3]
        have : rowsC M s x = fo (fun x acc => if s.2.2.2.1 x = true then acc else acc + (if 0 < Mc (19 + 18 * x) 2 then Mc (19 + 18 * x) 2 else Mc (19 + 18 * x) 0)) 0 x := fo_congr (fun y b hy => by rw [fc _ _ (by omega), fc _ _ (by omega)])
        rw [this]
    · by_cases ey : y = x
      · rw [hgo, ey.symm, hgy] at hg
        exact absurd rfl hg
      · exact h2 y (by omega) hgy
    · rw [h3]
      show _ = rowsC M s (x + 1)
      have hg1 : s.2.2.2.1 x = true := by
        rw [hgo] at hg
        cases q : s.2.2.2.1 x with
        | true => rfl
        | false => rw [q] at hg; exact absurd rfl hg
      rw [rowsC, rowsC, fo_suc, if_pos hg1]
  · obtain ⟨M, acc⟩ := a
    obtain ⟨h1, h2, h3⟩ := hJ
    dsimp only at h1 h2 h3 ⊢
    refine S90_4 hκ (Nat.le_refl _) hnb6 ((h1 _ _ (fun c => by rcases c with c | c | ⟨y, c1, c2, c3⟩ <;> omega)).trans hnb) (fun c => absurd c (Nat.lt_irrefl _)) (fun c => absurd c (Nat.lt_irrefl _)) (fun _ => ?_)
    rw [h3]
    exact K M h1 h2
end PL
end P_45_plan
