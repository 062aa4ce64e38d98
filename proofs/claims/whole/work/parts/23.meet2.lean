/-! WHERE TWO MEET: the model -/
section P_23_meet2
variable {Q : Ou → Prop} {M M0 : Mem} {κ : Kp}
def rsM (r : Int32) : Int32 := if r = -1 then -100000 else r
def rmM (e : Int32) (k : Nat) : Int32 := if 64 < k then (-100000) else (if 0 < k then (if e = 3 then (nI k) else (-100000)) else (nI k))
theorem st124 (hκ : Rd κ) {x n : Nat} {O : Op} (hx : x < 6) (hn : n ≤ 10) (hO : ∀ f, f < 6 → ∀ j, j < n → M (152 + f) (10 * x + j) = O f j) {v : Int32} (hv : ¬ v = -1) : Run 124 (0, entL 124 [.ref 134, .int (wtI O x v n), .int v], [], M, κ) (.inl (some (.int (bI (decide (loo O v n = 0))))), M, κ) := by
  unfold wtI loo
  by_cases c0 : cwt O v n = 0
  · rw [if_pos c0, if_pos c0]
    refine RT_run (S124_0 hκ (fun h => absurd rfl h) ?_)
    rfl
  · have hl := lw_lt n c0
    rw [if_neg c0, if_neg c0]
    by_cases c1 : cwt O v n = 1
    · rw [if_pos c1]
      have hb : 10 * x + lw O v n < 2147483648 := by omega
      refine RT_run (S124_0 hκ (fun _ _ => vp_in_nI (by omega) (by decide)) ?_)
      rw [if_neg (nI_m1 hb), if_neg (nI_pos hb), nI_clamp hb]
      rw [show M 152 (10 * x + lw O v n) = O 0 (lw O v n) from hO 0 (by decide) _ hl.1, show M 154 (10 * x + lw O v n) = O 2 (lw O v n) from hO 2 (by decide) _ hl.1, show M 157 (10 * x + lw O v n) = O 5 (lw O v n) from hO 5 (by decide) _ hl.1]
      have e : (if O 0 (lw O v n) = 1 then (if O 2 (lw O v n) = v then (if O 5 (lw O v n) = 0 then true else false) else false) else false) = stp O (lw O v n) := by
        have h2 := hl.2
        unfold wr wrF at h2
        unfold stp stpF
        by_cases q : O 0 (lw O v n) = 1
        · rw [if_pos q]
          rw [if_pos (by rw [q]; decide)] at h2
          rw [h2, q]
          by_cases q2 : O 2 (lw O v n) = v
          · rw [if_pos q2, q2]
            by_cases q3 : O 5 (lw O v n) = 0 <;> simp [q3]
          · rw [if_neg q2]
            have q4 : ¬ v = O 2 (lw O v n) := fun z => q2 z.symm
            simp [q4]
        · rw [if_neg q]
          simp [q]
      rw [e]
      have e2 : stp O (lw O v n) = decide (bI (decide (1 < cwt O v n) || !stp O (lw O v n)) = 0) := by
        rw [c1]
        cases stp O (lw O v n) <;> decide
      rw [← e2]
    · rw [if_neg c1]
      refine RT_run (S124_0 hκ (fun _ h => absurd (by decide) h) ?_)
      have e2 : decide (1 < cwt O v n) = true := decide_eq_true (by omega)
      rw [e2]
      rfl
theorem l125 (hκ : Rd κ) {x n i j : Nat} {O : Op} {e am o1 o2 : Int32} (hx : x < 6) (hn : n ≤ 10) (hi : i < n) (hj : j < n) (hc : M 151 x = nI n) (he : M 147 x = e) (hO : ∀ f, f < 6 → ∀ j, j < n → M (152 + f) (10 * x + j) = O f j) (f : Nat → Bool) (hf : ∀ k, f k = true ↔ (((o1 - o2) - ((nI k) * am)) &&& 63) = 0) :
    ∀ d k, k + d = 65 → Q (.inl (some (.int (rmM e (srN f d k)))), M, κ) → RT 125 (131, [.ref 134, .int (nI x), UU, UU, UU, UU, UU, .int am, .int o1, .int o2, .int (nI k)], [], M, κ) Q := by
  intro d
  induction d with
  | zero =>
    intro k hk K
    exact S125_131 hκ hx hn hi hj (by omega) hc he hO (fun _ => K) (fun h => absurd (by omega) h)
  | succ d ih =>
    intro k hk K
    refine S125_131 hκ hx hn hi hj (by omega) hc he hO (fun h => ?_) (fun _ h => ih (k + 1) (by omega) ?_)
    · rcases h with h | h
      · exact absurd h (by omega)
      · rw [srN, if_pos ((hf k).mpr h.2)] at K
        exact K
    · rw [srN, if_neg (fun z => h ((hf k).mp z))] at K
      exact K
theorem c125 (hκ : Rd κ) {x n i j : Nat} {O : Op} {e : Int32} (hx : x < 6) (hn : n ≤ 10) (hi : i < n) (hj : j < n) (hij : i < j ∨ e = 3) (hc : M 151 x = nI n) (he : M 147 x = e) (hO : ∀ f, f < 6 → ∀ j, j < n → M (152 + f) (10 * x + j) = O f j) (hv : ¬ O 2 i = -1) : Run 125 (0, entL 125 [.ref 134, .int (nI x), .int (nI ((10 * x) + i)), .int (nI ((10 * x) + j))], [], M, κ) (.inl (some (.int (rsM (mtF O n (decide (e = 3)) i j)))), M, κ) := by
  refine RT_run (S125_0 (k := 0) (r_24 := wtI O x (O 2 i) n) (r_45 := decide (loo O (O 2 i) n = 0)) hκ hx hn hi hj (by omega) hc he hO (c123 hκ hx hn hc hO hv) (fun _ => st124 hκ hx hn hO hv) (fun _ h1 h2 => ?_) (fun h => ?_) (fun h1 h2 => ?_))
  · have h1 := of_decide_eq_true h1
    unfold wtI at h2 ⊢
    by_cases c0 : cwt O (O 2 i) n = 0
    · rw [if_pos c0] at h2
      exact absurd rfl h2
    · have hl := lw_lt n c0
      by_cases c1 : cwt O (O 2 i) n = 1
      · rw [if_neg c0, if_pos c1]
        exact vp_in_nI (by omega) (by decide)
      · exfalso
        unfold loo at h1
        rw [if_neg c0, decide_eq_true (by omega : 1 < cwt O (O 2 i) n)] at h1
        exact absurd h1 (show ¬ (1 : Int32) = 0 by decide)
  · have e1 : mtF O n (decide (e = 3)) i j = nI (if i < j then 0 else 1) := by
      unfold mtF
      rw [if_neg]
      rintro ⟨h1, h2⟩
      rcases h with h | h
      · exact h.2 (decide_eq_true h2)
      · exact h h1.symm
    rw [e1]
    unfold rsM
    rw [if_neg (nI_m1 (by split <;> omega))]
    have : ((10 * x) + i < (10 * x) + j) ↔ i < j := by omega
    simp only [this]
  · have h2 := of_decide_eq_true h2
    have hb : ∀ a, a < 10 → 10 * x + a < 2147483648 := by omega
    have key : ∀ y : Nat, y < n → (O 4 y) + (if wtI O x (O 2 i) n = (-1) then 0 else (if wtI O x (O 2 i) n < (nI ((10 * x) + y)) then (if wtI O x (O 2 i) n = (-1) then 0 else (M 156 (wtI O x (O 2 i) n).toNatClampNeg)) else 0)) = sw O (O 2 i) y n := by
      intro y hy
      unfold wtI
      by_cases c0 : cwt O (O 2 i) n = 0
      · rw [if_pos c0, if_pos rfl, sw_0 n c0]
        exact Int32.add_zero _
      · have hl := lw_lt n c0
        by_cases c1 : cwt O (O 2 i) n = 1
        · rw [if_neg c0, if_pos c1, if_neg (nI_m1 (hb _ (by omega))), if_neg (nI_m1 (hb _ (by omega))), sw_1 n c1, nI_clamp (hb _ (by omega)), show M 156 (10 * x + lw O (O 2 i) n) = O 4 (lw O (O 2 i) n) from hO 4 (by decide) _ hl.1]
          have : (nI (10 * x + lw O (O 2 i) n) < nI (10 * x + y)) ↔ lw O (O 2 i) n < y := (nI_ltI (hb _ (by omega)) (hb _ (by omega))).trans (by omega)
          simp only [this]
        · exfalso
          unfold loo at h2
          rw [if_neg c0, decide_eq_true (by omega : 1 < cwt O (O 2 i) n)] at h2
          exact absurd h2 (show ¬ (1 : Int32) = 0 by decide)
    have kam : (if wtI O x (O 2 i) n = (-1) then 0 else (M 156 (wtI O x (O 2 i) n).toNatClampNeg)) = amo O (O 2 i) n := by
      unfold wtI amo
      by_cases c0 : cwt O (O 2 i) n = 0
      · rw [if_pos c0, if_pos c0, if_pos rfl]
      · have hl := lw_lt n c0
        by_cases c1 : cwt O (O 2 i) n = 1
        · rw [if_neg c0, if_pos c1, if_neg c0, if_neg (nI_m1 (hb _ (by omega))), nI_clamp (hb _ (by omega)), show M 156 (10 * x + lw O (O 2 i) n) = O 4 (lw O (O 2 i) n) from hO 4 (by decide) _ hl.1]
        · exfalso
          unfold loo at h2
          rw [if_neg c0, decide_eq_true (by omega : 1 < cwt O (O 2 i) n)] at h2
          exact absurd h2 (show ¬ (1 : Int32) = 0 by decide)
    rw [key i hi, key j hj, kam]
    have hfi : (if ((10 * x) + i) < ((10 * x) + j) then 0 else 1) = (if i < j then 0 else 1) := by
      have : ((10 * x) + i < (10 * x) + j) ↔ i < j := by omega
      simp only [this]
    rw [hfi]
    refine l125 hκ hx hn hi hj hc he hO (mtf O n i j) (fun k => ?_) (65 - (if i < j then 0 else 1)) _ (by split <;> omega) ?_
    · unfold mtf
      rw [decide_eq_true_iff, h1]
    · have e1 : mtF O n (decide (e = 3)) i j = srch (mtf O n i j) ((if decide (e = 3) = true then 64 else 0) + 1 - (if i < j then 0 else 1)) (if i < j then 0 else 1) := if_pos ⟨h1.symm, h2⟩
      rw [e1]
      have hge := srN_ge (mtf O n i j) (65 - (if i < j then 0 else 1)) (if i < j then 0 else 1)
      by_cases q : e = 3
      · rw [if_pos (decide_eq_true q), srch_N]
        have e3 : (if i < j then 0 else 1) + (64 + 1 - (if i < j then 0 else 1)) = 65 := by split <;> omega
        rw [e3]
        unfold rmM rsM
        by_cases t : srN (mtf O n i j) (65 - (if i < j then 0 else 1)) (if i < j then 0 else 1) < 65
        · rw [if_neg (by omega), if_pos q, ite_self]
          rw [show (64 : Nat) + 1 = 65 from rfl, if_pos t, if_neg (nI_m1 (by omega))]
        · rw [if_pos (by omega)]
          rw [show (64 : Nat) + 1 = 65 from rfl, if_neg t, if_pos rfl]
      · rw [if_neg (fun z => q (of_decide_eq_true z))]
        have hl : i < j := hij.elim id (fun z => absurd z q)
        rw [if_pos hl] at hge ⊢
        show _ = (Sum.inl (some (Value.int (rsM (if mtf O n i j 0 = true then nI 0 else srch (mtf O n i j) 0 1)))), M, κ)
        show (Sum.inl (some (Value.int (rmM e (if mtf O n i j 0 = true then 0 else srN (mtf O n i j) 64 1)))), M, κ) = _
        by_cases t : mtf O n i j 0 = true
        · rw [if_pos t, if_pos t]
          rfl
        · rw [if_neg t, if_neg t]
          have h3 := (srN_ge (mtf O n i j) 64 1).1
          unfold rmM
          rw [if_pos (by omega : 0 < srN (mtf O n i j) 64 1), if_neg q, ite_self]
          rfl
end P_23_meet2
