/-! MODULO: the model tries an interval, whole -/
section P_35_tries2
variable {Q : Ou → Prop} {M M0 : Mem} {κ : Kp}
section MM
variable {n x : Nat} {W : Nat → Nat → Option Int32} {O : Op} {U : Bool → Nat} {ii : Nat} {c : Nat → Int32}
/-- the priorities of the model -/
def prF (F : Nat → Nat → Int32) (n : Nat) : Nat → Int32 := fun i => fo (fun j m => mx m (F i j)) 0 n
/-- do all go -/
def alF (c : Nat → Int32) (ii : Int32) (b : Bool) : Nat → Bool
  | 0 => b
  | j + 1 => if alF c ii b j = true then (if c j < 0 then false else if 15 < c j / ii then false else true) else false
theorem alF_iff {i2 : Int32} {b : Bool} : ∀ m, alF c i2 b m = true ↔ (b = true ∧ ∀ j, j < m → ¬ c j < 0 ∧ ¬ 15 < c j / i2) := fun m => by
  induction m with
  | zero => exact ⟨fun h => ⟨h, fun j hj => absurd hj (Nat.not_lt_zero j)⟩, fun h => h.1⟩
  | succ m ih =>
    rw [alF]
    by_cases q : alF c i2 b m = true
    · rw [if_pos q]
      have q' := ih.mp q
      constructor
      · intro h
        refine ⟨q'.1, fun j hj => ?_⟩
        by_cases e : j = m
        · rw [e]
          by_cases q1 : c m < 0
          · rw [if_pos q1] at h; cases h
          · rw [if_neg q1] at h
            by_cases q2 : 15 < c m / i2
            · rw [if_pos q2] at h; cases h
            · exact ⟨q1, q2⟩
        · exact q'.2 j (by omega)
      · intro h
        have := h.2 m (Nat.lt_succ_self m)
        rw [if_neg this.1, if_neg this.2]
    · rw [if_neg q]
      refine ⟨fun h => (by cases h), fun h => absurd (ih.mpr ⟨h.1, fun j hj => h.2 j (by omega)⟩) q⟩
theorem gst_le {i2 : Int32} : ∀ m, ¬ (15 : Int32) < gst c i2 m ↔ ∀ j, j < m → ¬ 15 < dvF (c j) i2 := fun m => by
  induction m with
  | zero => exact ⟨fun _ j hj => absurd hj (Nat.not_lt_zero j), fun _ => by show ¬ (15 : Int32) < 0; decide⟩
  | succ m ih =>
    have e : gst c i2 (m + 1) = mx (gst c i2 m) (dvF (c m) i2) := rfl
    rw [e]
    have e2 : ¬ (15 : Int32) < mx (gst c i2 m) (dvF (c m) i2) ↔ (¬ 15 < gst c i2 m ∧ ¬ 15 < dvF (c m) i2) := by
      rw [ltI, ltI, ltI, mx_toInt]
      omega
    rw [e2, ih]
    constructor
    · intro h j hj
      by_cases e : j = m
      · rw [e]; exact h.2
      · exact h.1 j (by omega)
    · intro h
      exact ⟨fun j hj => h j (by omega), h m (Nat.lt_succ_self m)⟩
theorem alF_go {P : Nat → Int32} {b : Bool} (hi0 : 1 ≤ ii) (hii : ii ≤ 1000) (hcc : ∀ i, i < n → cyc (c i)) : alF c (nI ii) b n = (b && goF n P c (nI ii)) := by
  have hd : ∀ v, dvF v (nI ii) = v / nI ii := fun v => if_pos (by rw [ltI, nI_toInt (by omega), c0]; omega)
  have hg : goF n P c (nI ii) = true ↔ ∀ j, j < n → ¬ c j < 0 ∧ ¬ 15 < c j / nI ii := by
    unfold goF
    constructor
    · intro h j hj
      by_cases q : nx P c n = none
      · rw [if_pos q] at h
        have h1 := (nx_none n).mp q j hj
        refine ⟨fun z => h1 ((cyc_neg (hcc j hj)).mp z), ?_⟩
        by_cases q2 : 15 < gst c (nI ii) n
        · rw [if_pos q2] at h; cases h
        · rw [← hd]
          exact (gst_le n).mp q2 j hj
      · rw [if_neg q] at h; cases h
    · intro h
      rw [if_pos ((nx_none n).mpr (fun j hj z => (h j hj).1 ((cyc_neg (hcc j hj)).mpr z))), if_neg ((gst_le n).mpr (fun j hj => by rw [hd]; exact (h j hj).2))]
  have ha := alF_iff (c := c) (i2 := nI ii) (b := b) n
  cases hb : b with
  | false =>
    rw [hb] at ha
    exact Bool.eq_false_iff.mpr (fun z => by have := (ha.mp z).1; cases this)
  | true =>
    rw [hb] at ha
    rw [Bool.true_and]
    cases q : goF n P c (nI ii) with
    | true => exact ha.mpr ⟨rfl, hg.mp q⟩
    | false => exact Bool.eq_false_iff.mpr (fun z => by have := hg.mpr (ha.mp z).2; rw [q] at this; cases this)
theorem f136 (hκ : Rd κ) {mo : Bool} {F : Nat → Nat → Int32} (hx : x < 6) (hn : n ≤ 10) (hii : ii ≤ 80) (hi0 : 1 ≤ ii) (hc : M0 151 x = nI n) (hal : M0 134 1 = nI (U false)) (hpo : M0 134 2 = nI (U true)) (hU : ∀ b, U b ≤ 10) (hO : ∀ f, f < 6 → ∀ j, j < n → M0 (152 + f) (10 * x + j) = O f j) (hA : Aas7 κ n W ii M0) (hr : Wrg n W)
    (h129 : ∀ Q' : Ou → Prop, (∀ M1, (∀ o y, ¬ o = 168 → M1 o y = M0 o y) → (∀ i j, i < n → j < n → M1 168 (10 * i + j) = F i j) → Q' (.inl (some (.int (bI mo))), M1, κ)) → RT 129 (0, entL 129 [.ref 134, .int (nI n), .int (nI ii)], [], M0, κ) Q')
    (K : ∀ M', (∀ o y, (o < 168 ∨ 171 < o) → M' o y = M0 o y) → (∀ i, i < n → M' 170 i = (mits n W (prF F n) (PO O) U ii (6 * n)).1 i) → Q (.inl (some (.int (bI (!mo && goF n (prF F n) (mits n W (prF F n) (PO O) U ii (6 * n)).1 (nI ii))))), M', κ)) :
    RT 136 (0, entL 136 [.ref 134, .int (nI x), .int (nI ii)], [], M0, κ) Q := by
  refine S136_0 hκ hx hc (by omega) (h129 _ (fun M1 f1 hF => ⟨_, M1, κ, rfl, ?_⟩))
  refine S136_13 hκ hx ((f1 _ _ (by omega)).trans hc) (by omega) ?_
  have hi2 : ¬ nI ii = 0 := fun z => by
    have := (nI_eq (b := 0) (by omega) (by omega)).mp z
    omega
  -- the end
  have fin : ∀ M', (∀ o y, (o < 168 ∨ 171 < o) → M' o y = M0 o y) → (∀ i, i < n → M' 170 i = (mits n W (prF F n) (PO O) U ii (6 * n)).1 i) → RT 136 (200, [.ref 134, UU, .int (nI ii), .int (nI n), UU, .int (bI (if mo = true then false else true)), .int (nI 0), UU], [], M', κ) Q := by
    intro M' g1 g2
    have hrg := (mits_rng (P := prF F n) (Pt := PO O) (U := U) hr hii (6 * n) (by omega)).1
    have e0 : (if mo = true then false else true) = !mo := by cases mo <;> rfl
    rw [e0]
    refine loopI (n := n) (fun j al => RT 136 (200, [.ref 134, UU, .int (nI ii), .int (nI n), UU, .int (bI al), .int (nI j), UU], [], M', κ) Q) (fun j al => al = alF (mits n W (prF F n) (PO O) U ii (6 * n)).1 (nI ii) (!mo) j) (fun j al hj hI ih => ?_) (fun al hI => ?_) 0 _ (Nat.zero_le _) rfl
    · refine S136_200 hκ hn (by omega) (by omega) (fun _ _ _ => hi2) (fun _ => ih _ ?_) (fun z => absurd hj z)
      rw [hI, alF, g2 j hj]
    · refine S136_200 hκ hn (Nat.le_refl _) (by omega) (fun z => absurd z (Nat.lt_irrefl _)) (fun z => absurd z (Nat.lt_irrefl _)) (fun _ => ?_)
      have := K M' g1 g2
      rw [← alF_go (P := prF F n) hi0 (by omega) (fun i hi => cyB_cyc (hrg i hi) (by omega)), ← hI] at this
      exact this
  -- the priorities
  refine loopI (n := n) (fun i M => RT 136 (18, [.ref 134, .int (nI x), .int (nI ii), .int (nI n), .int (bI mo), .int (nI i), UU, UU], [], M, κ) Q) (fun i M => (∀ o y, (o < 169 ∨ 171 < o) → M o y = M1 o y) ∧ ∀ k, k < i → M 169 k = prF F n k ∧ M 170 k = -1 ∧ M 171 k = -1) (fun i M hi hI ih => ?_) (fun M hI => ?_) 0 M1 (Nat.zero_le _) ⟨fun _ _ _ => rfl, fun k hk => absurd hk (Nat.not_lt_zero k)⟩
  · obtain ⟨g1, g2⟩ := hI
    refine S136_18 hκ hx hn (by omega) (by omega) (fun _ => ?_) (fun z => absurd hi z)
    refine loopI (n := n) (fun j M2 => RT 136 (35, [.ref 134, .int (nI x), .int (nI ii), .int (nI n), .int (bI mo), .int (nI i), .int (nI j), UU], [], M2, κ) Q) (fun j M2 => (∀ o y, ¬ (o = 169 ∧ y = i) → M2 o y = M o y) ∧ M2 169 i = fo (fun j m => mx m (F i j)) 0 j) (fun j M2 hj hJ ih2 => ?_) (fun M2 hJ => ?_) 0 _ (Nat.zero_le _) ⟨fun o y h => stM_n h, stM_s⟩
    · obtain ⟨k1, k2⟩ := hJ
      refine S136_35 hκ hx hn hi (by omega) (by omega) (fun _ => ih2 _ ⟨fun o y h => (stM_n h).trans (k1 o y h), ?_⟩) (fun z => absurd hj z)
      rw [stM_s, fo_suc, k2, k1 168 _ (by omega), g1 168 _ (by omega), hF i j hi hj]
    · obtain ⟨k1, k2⟩ := hJ
      refine S136_35 hκ hx hn hi (Nat.le_refl _) (by omega) (fun z => absurd z (Nat.lt_irrefl _)) (fun _ => ih _ ⟨fun o y h => ?_, fun k hk => ?_⟩)
      · rw [stM_n (by omega), stM_n (by omega), k1 o y (by omega)]
        exact g1 o y h
      · by_cases e : k = i
        · rw [e]
          refine ⟨?_, ?_, stM_s⟩
          · rw [stM_o (by decide), stM_o (by decide), k2]
            rfl
          · rw [stM_o (by decide), stM_s]
        · obtain ⟨a1, a2, a3⟩ := g2 k (by omega)
          refine ⟨?_, ?_, ?_⟩
          · rw [stM_o (by decide), stM_o (by decide), k1 _ _ (by omega)]
            exact a1
          · rw [stM_o (by decide), stM_j e, k1 _ _ (by omega)]
            exact a2
          · rw [stM_j e, stM_o (by decide), k1 _ _ (by omega)]
            exact a3
  · obtain ⟨g1, g2⟩ := hI
    refine S136_18 hκ hx hn (Nat.le_refl _) (by omega) (fun z => absurd z (Nat.lt_irrefl _)) (fun _ => ?_)
    refine loopI (n := 6 * n) (fun s M' => RT 136 (103, [.ref 134, .int (nI x), .int (nI ii), .int (nI n), .int (bI mo), .int (nI s), UU, UU], [], M', κ) Q) (fun s M' => (∀ o y, (o < 170 ∨ 171 < o) → M' o y = M o y) ∧ (∀ i, i < n → M' 170 i = (mits n W (prF F n) (PO O) U ii s).1 i) ∧ (∀ i, i < n → M' 171 i = (mits n W (prF F n) (PO O) U ii s).2 i)) (fun s M' hs hJ ih => ?_) (fun M' hJ => ?_) 0 M (Nat.zero_le _) ⟨fun _ _ _ => rfl, fun i hi => (g2 i hi).2.1, fun i hi => (g2 i hi).2.2⟩
    · obtain ⟨k1, k2, k3⟩ := hJ
      have hrg := mits_rng (P := prF F n) (Pt := PO O) (U := U) hr hii s (by omega)
      have hcc : ∀ i, i < n → cyc ((mits n W (prF F n) (PO O) U ii s).1 i) := fun i hi => cyB_cyc (hrg.1 i hi) (by omega)
      have hP : ∀ i, i < n → M' 169 i = prF F n i := fun i hi => (k1 _ _ (by omega)).trans (g2 i hi).1
      have fM : ∀ o y, (o < 168 ∨ 171 < o) → M' o y = M0 o y := fun o y h => (k1 o y (by omega)).trans ((g1 o y (by omega)).trans (f1 o y (by omega)))
      refine S136_103 (j := 0) hκ hx hn (by omega) (by omega) (by omega) (fun _ => ?_) (fun z => absurd hs z)
      have est : mits n W (prF F n) (PO O) U ii (s + 1) = mst n W (prF F n) (PO O) U ii (mits n W (prF F n) (PO O) U ii s) := rfl
      refine loopI (n := n) (fun j be => RT 136 (118, [.ref 134, .int (nI x), .int (nI ii), .int (nI n), .int (bI mo), .int (nI s), .int be, .int (nI j)], [], M', κ) Q) (fun j be => be = eo (nx (prF F n) (mits n W (prF F n) (PO O) U ii s).1 j)) (fun j be hj hB ih2 => ?_) (fun be hB => ?_) 0 (-1) (Nat.zero_le _) rfl
      · refine S136_118 hκ hx hn (by omega) (by omega) (by omega) (fun _ _ hb => ?_) (fun _ => ih2 _ ?_) (fun z => absurd hj z) (fun z => absurd hj z)
        · rw [hB] at hb ⊢
          cases q : nx (prF F n) (mits n W (prF F n) (PO O) U ii s).1 j with
          | none => rw [q] at hb; exact absurd m1_lt hb
          | some b => exact vp_in_nI (by have := (nx_lt j b q).1; omega) (by decide)
        · rw [hB, nx, k2 j hj]
          by_cases h1 : (mits n W (prF F n) (PO O) U ii s).1 j = -1
          · rw [if_pos h1, if_pos ((cyc_neg (hcc j hj)).mpr h1)]
            cases q : nx (prF F n) (mits n W (prF F n) (PO O) U ii s).1 j with
            | none => exact if_pos m1_lt
            | some b =>
              have hb := (nx_lt j b q).1
              show (if nI b < 0 then nI j else if M' 169 (nI b).toNatClampNeg < M' 169 j then nI j else nI b) = _
              rw [if_neg (by rw [ltI, nI_toInt (by omega), c0]; omega), nI_clamp (by omega), hP b (by omega), hP j hj]
              dsimp only
              split <;> rfl
          · rw [if_neg h1, if_neg (fun z => h1 ((cyc_neg (hcc j hj)).mp z))]
      · cases q : nx (prF F n) (mits n W (prF F n) (PO O) U ii s).1 n with
        | none =>
          rw [q] at hB
          rw [mst, q] at est
          have hb0 : be < 0 := by rw [hB]; exact m1_lt
          refine S136_118 hκ hx hn (Nat.le_refl _) (by omega) (by omega) (fun z => absurd z (Nat.lt_irrefl _)) (fun z => absurd z (Nat.lt_irrefl _)) (fun _ _ => ih M' ?_) (fun _ z => absurd hb0 z)
          rw [est]
          exact ⟨k1, k2, k3⟩
        | some b =>
          rw [q] at hB
          rw [mst, q] at est
          have hb := nx_lt n b q
          have hbe : be = nI b := hB
          have hb0 : ¬ be < 0 := by rw [hbe, ltI, nI_toInt (by omega), c0]; omega
          refine S136_118 hκ hx hn (Nat.le_refl _) (by omega) (by omega) (fun z => absurd z (Nat.lt_irrefl _)) (fun z => absurd z (Nat.lt_irrefl _)) (fun _ z => absurd z hb0) (fun _ _ => ?_)
          rw [hbe]
          refine f137 (P := prF F n) (c := (mits n W (prF F n) (PO O) U ii s).1) (hd := (mits n W (prF F n) (PO O) U ii s).2) (B := 100 * s) (O := O) (U := U) (W := W) hκ hx hb.1 hn (by omega) hii hi0 ((fM _ _ (by omega)).trans hc) ((fM _ _ (by omega)).trans hal) ((fM _ _ (by omega)).trans hpo) hU (fun f hf j hj => (fM _ _ (by omega)).trans (hO f hf j hj)) (Aas7_eq hA (fun o y h => fM o y (by omega))) hr hP k2 k3 hrg.1 hrg.2 ?_
          intro M2 j1 j2 j3
          refine ⟨none, M2, κ, rfl, ?_⟩
          refine w_weak (lle_s (lle_s (lle_s (lle_s (lle_s (lle_s (lle_u (lle_u lle_n)))))))) (S136_179 hκ hx hn (by omega) (by omega) (ih M2 ⟨fun o y h => (j1 o y (by omega)).trans (k1 o y h), ?_, ?_⟩))
          · rw [est]; exact j2
          · rw [est]; exact j3
    · obtain ⟨k1, k2, k3⟩ := hJ
      refine S136_103 (j := 0) hκ hx hn (Nat.zero_le _) (by omega) (by omega) (fun z => absurd z (Nat.lt_irrefl _)) (fun _ => fin M' (fun o y h => (k1 o y (by omega)).trans ((g1 o y (by omega)).trans (f1 o y (by omega)))) k2)
end MM
end P_35_tries2
