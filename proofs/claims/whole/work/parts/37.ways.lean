/-! WAYS: what the closure tells -/
section P_37_ways
section FW
variable {n : Nat} {W : Nat → Nat → Option Int32} {F : Nat → Nat → Int32} {Qp D p : Nat → Int}
/-- small weights -/
def Ws (n : Nat) (W : Nat → Nat → Option Int32) : Prop := ∀ i j, i < n → j < n → ∀ w, W i j = some w → -6000 ≤ w.toInt ∧ w.toInt ≤ 8
def Pot (n : Nat) (W : Nat → Nat → Option Int32) (Q : Nat → Int) : Prop := (∀ k, k < n → 0 ≤ Q k ∧ Q k ≤ 100000) ∧ ∀ i j, i < n → j < n → ∀ w, W i j = some w → w.toInt + Q j ≤ Q i
def InvA (n : Nat) (Q : Nat → Int) (F : Nat → Nat → Int32) : Prop := ∀ i j, i < n → j < n → -100000 ≤ (F i j).toInt ∧ (-100000 < (F i j).toInt → (F i j).toInt ≤ Q i - Q j)
theorem fo_inv {α : Type} {f : Nat → α → α} {a : α} {I : α → Prop} (h0 : I a) : ∀ m, m ≤ n → (∀ j b, j < n → I b → I (f j b)) → I (fo f a m) := fun m => by
  induction m with
  | zero => exact fun _ _ => h0
  | succ m ih => exact fun hm hs => hs m _ (by omega) (ih (by omega) hs)
theorem A_step (hQ : ∀ k, k < n → 0 ≤ Qp k ∧ Qp k ≤ 100000) {z x y : Nat} (hz : z < n) (hx : x < n) (hy : y < n) (h : InvA n Qp F) : InvA n Qp (fwS z x y F) := by
  unfold fwS
  by_cases q : (-100000) < F x z ∧ (-100000) < F z y
  · rw [if_pos q]
    intro a b ha hb
    unfold up2
    by_cases e : a = x ∧ b = y
    · rw [if_pos e, e.1, e.2]
      have h1 := h x z hx hz
      have h2 := h z y hz hy
      have h3 := h x y hx hy
      have q1 : -100000 < (F x z).toInt := by have := ltI.mp q.1; rwa [cNV] at this
      have q2 : -100000 < (F z y).toInt := by have := ltI.mp q.2; rwa [cNV] at this
      have p1 := hQ x hx
      have p2 := hQ y hy
      have p3 := hQ z hz
      rw [mx_toInt, l_add (by omega) (by omega)]
      omega
    · rw [if_neg e]
      exact h a b ha hb
  · rw [if_neg q]
    exact h
theorem A_all (hW : Ws n W) (hQ : Pot n W Qp) : InvA n Qp (fwZ n (eW W) n) := by
  refine fo_inv (n := n) (I := InvA n Qp) ?_ n (Nat.le_refl n) (fun z F hz hF => ?_)
  · intro i j hi hj
    unfold eW
    cases q : W i j with
    | none =>
      have e : (enc (-100000) none).toInt = -100000 := cNV
      omega
    | some w =>
      have h1 := hW i j hi hj w q
      have h2 := hQ.2 i j hi hj w q
      show -100000 ≤ w.toInt ∧ (-100000 < w.toInt → w.toInt ≤ Qp i - Qp j)
      omega
  · refine fo_inv (n := n) (I := InvA n Qp) hF n (Nat.le_refl n) (fun x F hx hF => ?_)
    exact fo_inv (n := n) (I := InvA n Qp) hF n (Nat.le_refl n) (fun y F hy hF => A_step hQ.1 hz hx hy hF)
theorem psd_iff : ∀ m, psd F m = true ↔ ∃ k, k < m ∧ 0 < (F k k).toInt := fun m => by
  induction m with
  | zero => exact ⟨fun h => (by cases h), fun ⟨k, hk, _⟩ => absurd hk (Nat.not_lt_zero k)⟩
  | succ m ih =>
    rw [psd]
    by_cases q : psd F m = true
    · rw [if_pos q]
      obtain ⟨k, h1, h2⟩ := ih.mp q
      exact ⟨fun _ => ⟨k, by omega, h2⟩, fun _ => rfl⟩
    · rw [if_neg q]
      by_cases q2 : 0 < F m m
      · rw [if_pos q2]
        refine ⟨fun _ => ⟨m, Nat.lt_succ_self m, ?_⟩, fun _ => rfl⟩
        rw [ltI, c0] at q2
        exact q2
      · rw [if_neg q2]
        refine ⟨fun h => (by cases h), fun ⟨k, h1, h2⟩ => ?_⟩
        exfalso
        by_cases e : k = m
        · rw [e] at h2
          exact q2 (by rw [ltI, c0]; exact h2)
        · exact q (ih.mpr ⟨k, by omega, h2⟩)
theorem A_psd (h : InvA n Qp F) : psd F n = false := Bool.eq_false_iff.mpr (fun z => by
  obtain ⟨k, h1, h2⟩ := (psd_iff n).mp z
  have := (h k k h1 h1).2 (by omega)
  omega)
theorem prF_spec {k : Nat} : ∀ m, 0 ≤ (fo (fun j m => mx m (F k j)) 0 m).toInt ∧ (∀ y, y < m → (F k y).toInt ≤ (fo (fun j m => mx m (F k j)) 0 m).toInt) ∧ ((fo (fun j m => mx m (F k j)) 0 m).toInt = 0 ∨ ∃ y, y < m ∧ (fo (fun j m => mx m (F k j)) 0 m).toInt = (F k y).toInt) := fun m => by
  induction m with
  | zero =>
    have e : (fo (fun j m => mx m (F k j)) 0 0).toInt = 0 := c0
    exact ⟨by omega, fun y hy => absurd hy (Nat.not_lt_zero y), .inl e⟩
  | succ m ih =>
    obtain ⟨h1, h2, h3⟩ := ih
    rw [fo_suc, mx_toInt]
    generalize (fo (fun j m => mx m (F k j)) 0 m).toInt = v at h1 h2 h3 ⊢
    refine ⟨by omega, fun y hy => ?_, ?_⟩
    · by_cases e : y = m
      · rw [e]; omega
      · have := h2 y (by omega); omega
    · by_cases q : v < (F k m).toInt
      · exact .inr ⟨m, Nat.lt_succ_self m, by omega⟩
      · rcases h3 with h3 | ⟨y, hy, h3⟩
        · exact .inl (by omega)
        · exact .inr ⟨y, by omega, by omega⟩
theorem A_min (hQ : ∀ k, k < n → 0 ≤ Qp k ∧ Qp k ≤ 100000) (h : InvA n Qp F) {k : Nat} (hk : k < n) : (prF F n k).toInt ≤ Qp k := by
  have h1 := hQ k hk
  rcases (prF_spec (F := F) (k := k) n).2.2 with h2 | ⟨y, hy, h2⟩
  · show (fo (fun j m => mx m (F k j)) 0 n).toInt ≤ Qp k
    omega
  · show (fo (fun j m => mx m (F k j)) 0 n).toInt ≤ Qp k
    rw [h2]
    have h3 := h k y hk hy
    have h4 := hQ y hy
    by_cases q : -100000 < (F k y).toInt
    · have := h3.2 q
      omega
    · omega
-- the closure itself
theorem mono_S {z x y a b : Nat} : (F a b).toInt ≤ (fwS z x y F a b).toInt := by
  unfold fwS
  by_cases q : (-100000) < F x z ∧ (-100000) < F z y
  · rw [if_pos q]
    unfold up2
    by_cases e : a = x ∧ b = y
    · rw [if_pos e, e.1, e.2, mx_toInt]
      omega
    · rw [if_neg e]
      exact Int.le_refl _
  · rw [if_neg q]
    exact Int.le_refl _
theorem fo_mono {f : Nat → (Nat → Nat → Int32) → (Nat → Nat → Int32)} {a b : Nat} (h : ∀ j G, (G a b).toInt ≤ (f j G a b).toInt) : ∀ m, (F a b).toInt ≤ (fo f F m a b).toInt := fun m => by
  induction m with
  | zero => exact Int.le_refl _
  | succ m ih => exact Int.le_trans ih (h m _)
theorem mono_R {z x m a b : Nat} : (F a b).toInt ≤ (fwR n z x F m a b).toInt := fo_mono (fun _ _ => mono_S) m
theorem mono_X {z m a b : Nat} : (F a b).toInt ≤ (fwX n z F m a b).toInt := fo_mono (fun _ _ => mono_R) m
theorem mono_Z {m a b : Nat} : (F a b).toInt ≤ (fwZ n F m a b).toInt := fo_mono (fun _ _ => mono_X) m
theorem mono_Zd {a b m : Nat} : ∀ d, (fwZ n F m a b).toInt ≤ (fwZ n F (m + d) a b).toInt := fun d => by
  induction d with
  | zero => exact Int.le_refl _
  | succ d ih => exact Int.le_trans ih (mono_X (F := fwZ n F (m + d)))
def updF (F : Nat → Nat → Int32) (z a b : Nat) : Int32 := if (-100000) < F a z ∧ (-100000) < F z b then mx (F a b) (F a z + F z b) else F a b
def Bd (n : Nat) (u : Nat) (F : Nat → Nat → Int32) : Prop := ∀ a b, a < n → b < n → -100000 ≤ (F a b).toInt ∧ (F a b).toInt ≤ 8 * u
theorem upd_col {u z a : Nat} (hu : u ≤ 2000) (hB : Bd n u F) (hz : z < n) (ha : a < n) (h0 : (F z z).toInt ≤ 0) : updF F z a z = F a z := by
  unfold updF
  by_cases q : (-100000) < F a z ∧ (-100000) < F z z
  · rw [if_pos q]
    apply Int32.toInt_inj.mp
    have h1 := hB a z ha hz
    have h2 := hB z z hz hz
    rw [mx_toInt, l_add (by omega) (by omega)]
    omega
  · rw [if_neg q]
theorem upd_row {u z b : Nat} (hu : u ≤ 2000) (hB : Bd n u F) (hz : z < n) (hb : b < n) (h0 : (F z z).toInt ≤ 0) : updF F z z b = F z b := by
  unfold updF
  by_cases q : (-100000) < F z z ∧ (-100000) < F z b
  · rw [if_pos q]
    apply Int32.toInt_inj.mp
    have h1 := hB z b hz hb
    have h2 := hB z z hz hz
    rw [mx_toInt, l_add (by omega) (by omega)]
    omega
  · rw [if_neg q]
theorem row_R {z x : Nat} (hc : updF F z x z = F x z) : ∀ m, fwR n z x F m = fun a b => if a = x ∧ b < m then updF F z a b else F a b := fun m => by
  induction m with
  | zero =>
    funext a b
    rw [if_neg (fun c => absurd c.2 (Nat.not_lt_zero b))]
    rfl
  | succ m ih =>
    have e : fwR n z x F (m + 1) = fwS z x m (fwR n z x F m) := rfl
    rw [e, ih]
    unfold fwS
    have e1 : (if x = x ∧ z < m then updF F z x z else F x z) = F x z := by
      by_cases q : x = x ∧ z < m
      · rw [if_pos q, hc]
      · rw [if_neg q]
    have e2 : (if z = x ∧ m < m then updF F z z m else F z m) = F z m := if_neg (fun c => absurd c.2 (Nat.lt_irrefl m))
    have e3 : (if x = x ∧ m < m then updF F z x m else F x m) = F x m := if_neg (fun c => absurd c.2 (Nat.lt_irrefl m))
    show (if (-100000) < (if x = x ∧ z < m then updF F z x z else F x z) ∧ (-100000) < (if z = x ∧ m < m then updF F z z m else F z m) then up2 (fun a b => if a = x ∧ b < m then updF F z a b else F a b) x m (mx (if x = x ∧ m < m then updF F z x m else F x m) ((if x = x ∧ z < m then updF F z x z else F x z) + (if z = x ∧ m < m then updF F z z m else F z m))) else fun a b => if a = x ∧ b < m then updF F z a b else F a b) = _
    rw [e1, e2, e3]
    by_cases q : (-100000) < F x z ∧ (-100000) < F z m
    · rw [if_pos q]
      funext a b
      unfold up2
      by_cases e4 : a = x ∧ b = m
      · rw [if_pos e4, e4.1, e4.2, if_pos ⟨rfl, Nat.lt_succ_self m⟩]
        unfold updF
        rw [if_pos q]
      · rw [if_neg e4]
        have : (a = x ∧ b < m) ↔ (a = x ∧ b < m + 1) := ⟨fun c => ⟨c.1, by omega⟩, fun c => ⟨c.1, by omega⟩⟩
        simp only [this]
    · rw [if_neg q]
      funext a b
      by_cases e4 : a = x ∧ b = m
      · rw [e4.1, e4.2, if_neg (fun c => absurd c.2 (Nat.lt_irrefl m)), if_pos ⟨rfl, Nat.lt_succ_self m⟩]
        unfold updF
        rw [if_neg q]
      · have : (a = x ∧ b < m) ↔ (a = x ∧ b < m + 1) := ⟨fun c => ⟨c.1, by omega⟩, fun c => ⟨c.1, by omega⟩⟩
        simp only [this]
theorem all_X {u z : Nat} (hu : u ≤ 2000) (hB : Bd n u F) (hz : z < n) (h0 : (F z z).toInt ≤ 0) : ∀ m, m ≤ n → fwX n z F m = fun a b => if a < m ∧ b < n then updF F z a b else F a b := fun m => by
  induction m with
  | zero =>
    intro _
    funext a b
    rw [if_neg (fun c => absurd c.1 (Nat.not_lt_zero a))]
    rfl
  | succ m ih =>
    intro hm
    have e : fwX n z F (m + 1) = fwR n z m (fwX n z F m) n := rfl
    rw [e, ih (by omega)]
    have g1 : ∀ a, a < n → (if a < m ∧ z < n then updF F z a z else F a z) = F a z := fun a ha => by
      by_cases q : a < m ∧ z < n
      · rw [if_pos q, upd_col hu hB hz ha h0]
      · rw [if_neg q]
    have g2 : ∀ b, b < n → (if z < m ∧ b < n then updF F z z b else F z b) = F z b := fun b hb => by
      by_cases q : z < m ∧ b < n
      · rw [if_pos q, upd_row hu hB hz hb h0]
      · rw [if_neg q]
    have g3 : ∀ b, (if m < m ∧ b < n then updF F z m b else F m b) = F m b := fun b => if_neg (fun c => absurd c.1 (Nat.lt_irrefl m))
    have g4 : ∀ b, b < n → updF (fun a b => if a < m ∧ b < n then updF F z a b else F a b) z m b = updF F z m b := fun b hb => by
      show (if (-100000) < (if m < m ∧ z < n then updF F z m z else F m z) ∧ (-100000) < (if z < m ∧ b < n then updF F z z b else F z b) then mx (if m < m ∧ b < n then updF F z m b else F m b) ((if m < m ∧ z < n then updF F z m z else F m z) + (if z < m ∧ b < n then updF F z z b else F z b)) else (if m < m ∧ b < n then updF F z m b else F m b)) = _
      rw [g3, g3, g2 b hb]
      rfl
    rw [row_R (by
      rw [g4 z hz]
      show _ = (if m < m ∧ z < n then updF F z m z else F m z)
      rw [g3]
      exact upd_col hu hB hz (by omega) h0)]
    funext a b
    by_cases e4 : a = m ∧ b < n
    · rw [if_pos e4, e4.1, g4 b e4.2, if_pos ⟨Nat.lt_succ_self m, e4.2⟩]
    · rw [if_neg e4]
      have : (a < m ∧ b < n) ↔ (a < m + 1 ∧ b < n) := ⟨fun c => ⟨by omega, c.2⟩, fun c => ⟨by omega, c.2⟩⟩
      show (if a < m ∧ b < n then updF F z a b else F a b) = _
      simp only [this]
/-- closed through the first z, as far as ways are not too long -/
def Clo (n : Nat) (u z : Nat) (F : Nat → Nat → Int32) : Prop := ∀ w x y, w < z → x < n → y < n → -100000 < (F x w).toInt → -100000 < (F w y).toInt → -100000 + 16 * (u : Int) ≤ (F x w).toInt + (F w y).toInt → (F x w).toInt + (F w y).toInt ≤ (F x y).toInt
theorem upd_int {u z a b : Nat} (hu : u ≤ 2000) (hB : Bd n u F) (hz : z < n) (ha : a < n) (hb : b < n) : (-100000 < (F a z).toInt ∧ -100000 < (F z b).toInt ∧ (updF F z a b).toInt = max (F a b).toInt ((F a z).toInt + (F z b).toInt)) ∨ (¬ (-100000 < (F a z).toInt ∧ -100000 < (F z b).toInt) ∧ (updF F z a b).toInt = (F a b).toInt) := by
  have h1 := hB a z ha hz
  have h2 := hB z b hz hb
  unfold updF
  by_cases q : (-100000) < F a z ∧ (-100000) < F z b
  · rw [if_pos q, mx_toInt, l_add (by omega) (by omega)]
    obtain ⟨q1, q2⟩ := q
    rw [ltI, cNV] at q1 q2
    exact .inl ⟨q1, q2, rfl⟩
  · rw [if_neg q]
    rw [ltI, ltI, cNV] at q
    exact .inr ⟨q, rfl⟩
theorem Clo_step {u z : Nat} {G : Nat → Nat → Int32} (hu1 : 1 ≤ u) (hu : u ≤ 2000) (hB : Bd n u F) (hz : z < n) (h0 : (F z z).toInt ≤ 0) (hC : Clo n u z F) (hG : ∀ a b, a < n → b < n → G a b = updF F z a b) : Bd n (2 * u) G ∧ Clo n (2 * u) (z + 1) G := by
  refine ⟨fun a b ha hb => ?_, fun w x y hw hx hy k1 k2 k3 => ?_⟩
  · rw [hG a b ha hb]
    have h1 := hB a z ha hz
    have h2 := hB z b hz hb
    have h3 := hB a b ha hb
    rcases upd_int hu hB hz ha hb with ⟨_, _, e⟩ | ⟨_, e⟩ <;> omega
  · by_cases hwz : w = z
    · rw [hwz] at k1 k2 k3 ⊢
      rw [hG x z hx hz, upd_col hu hB hz hx h0] at k1 k3 ⊢
      rw [hG z y hz hy, upd_row hu hB hz hy h0] at k2 k3 ⊢
      rw [hG x y hx hy]
      rcases upd_int hu hB hz hx hy with ⟨_, _, e⟩ | ⟨e, _⟩
      · omega
      · exact absurd ⟨k1, k2⟩ e
    · have hwz' : w < z := by omega
      have hwn : w < n := by omega
      rw [hG x w hx hwn] at k1 k3 ⊢
      rw [hG w y hwn hy] at k2 k3 ⊢
      rw [hG x y hx hy]
      have b1 := hB x z hx hz
      have b2 := hB z y hz hy
      have b3 := hB z w hz hwn
      have b4 := hB w z hwn hz
      have e1 := upd_int hu hB hz hx hwn
      have e2 := upd_int hu hB hz hwn hy
      have e3 := upd_int hu hB hz hx hy
      have c1 := hC w x y hwz' hx hy
      have c2 := hC w z y hwz' hz hy
      have c3 := hC w x z hwz' hx hz
      have c4 := hC w z z hwz' hz hz
      generalize (updF F z x w).toInt = uxw at *
      generalize (updF F z w y).toInt = uwy at *
      generalize (updF F z x y).toInt = uxy at *
      clear hG hC hB
      generalize (F x z).toInt = xz at *
      generalize (F z y).toInt = zy at *
      generalize (F z w).toInt = zw at *
      generalize (F w z).toInt = wz at *
      generalize (F x w).toInt = xw at *
      generalize (F w y).toInt = wy at *
      generalize (F x y).toInt = xy at *
      generalize (F z z).toInt = zz at *
      have hxy : xy ≤ uxy := by omega
      have hxzy : -100000 < xz → -100000 < zy → xz + zy ≤ uxy := by omega
      have u0 : (1 : Int) ≤ u := by omega
      rcases e1 with ⟨p1, p2, e1⟩ | ⟨_, e1⟩ <;> rcases e2 with ⟨p3, p4, e2⟩ | ⟨_, e2⟩
      · by_cases s1 : xz + zw ≤ xw <;> by_cases s2 : wz + zy ≤ wy
        · have := c1 (by omega) (by omega) (by omega)
          omega
        · have := c3 (by omega) (by omega) (by omega)
          have := hxzy (by omega) (by omega)
          omega
        · have := c2 (by omega) (by omega) (by omega)
          have := hxzy (by omega) (by omega)
          omega
        · have := c4 (by omega) (by omega) (by omega)
          have := hxzy (by omega) (by omega)
          omega
      · by_cases s1 : xz + zw ≤ xw
        · have := c1 (by omega) (by omega) (by omega)
          omega
        · have := c2 (by omega) (by omega) (by omega)
          have := hxzy (by omega) (by omega)
          omega
      · by_cases s2 : wz + zy ≤ wy
        · have := c1 (by omega) (by omega) (by omega)
          omega
        · have := c3 (by omega) (by omega) (by omega)
          have := hxzy (by omega) (by omega)
          omega
      · have := c1 (by omega) (by omega) (by omega)
        omega
theorem pow10 {z : Nat} (h : z ≤ 10) : 2 ^ z ≤ 1024 := Nat.pow_le_pow_right (by decide) h
theorem B_all (hn : n ≤ 10) (hW : Ws n W) (hd : ∀ k, k < n → (fwZ n (eW W) n k k).toInt ≤ 0) : ∀ z, z ≤ n → Bd n (2 ^ z) (fwZ n (eW W) z) ∧ Clo n (2 ^ z) z (fwZ n (eW W) z) := fun z => by
  induction z with
  | zero =>
    intro _
    refine ⟨fun a b ha hb => ?_, fun w x y hw => absurd hw (Nat.not_lt_zero w)⟩
    show -100000 ≤ (eW W a b).toInt ∧ (eW W a b).toInt ≤ 8 * ((2 ^ 0 : Nat) : Int)
    unfold eW
    cases q : W a b with
    | none =>
      have e : (enc (-100000) none).toInt = -100000 := cNV
      omega
    | some w =>
      have h1 := hW a b ha hb w q
      show -100000 ≤ w.toInt ∧ w.toInt ≤ 8 * ((2 ^ 0 : Nat) : Int)
      omega
  | succ z ih =>
    intro hz
    obtain ⟨h1, h2⟩ := ih (by omega)
    have hzn : z < n := hz
    have hp := pow10 (z := z) (by omega)
    have h0 : (fwZ n (eW W) z z z).toInt ≤ 0 := by
      have := mono_Zd (n := n) (F := eW W) (a := z) (b := z) (m := z) (n - z)
      rw [Nat.add_sub_cancel' (by omega)] at this
      have := hd z hzn
      omega
    have e : fwZ n (eW W) (z + 1) = fwX n z (fwZ n (eW W) z) n := rfl
    have ee : 2 ^ (z + 1) = 2 * 2 ^ z := by rw [Nat.pow_succ, Nat.mul_comm]
    rw [e, ee]
    refine Clo_step (Nat.pos_of_ne_zero (fun c => by have := Nat.two_pow_pos z; omega)) (by omega) h1 hzn h0 h2 (fun a b ha hb => ?_)
    rw [all_X (by omega) h1 hzn h0 n (Nat.le_refl n)]
    exact if_pos ⟨ha, hb⟩
theorem B_pot (hn : n ≤ 10) (hW : Ws n W) (hd : psd (fwZ n (eW W) n) n = false) : Pot n W (fun k => (prF (fwZ n (eW W) n) n k).toInt) := by
  have hd' : ∀ k, k < n → (fwZ n (eW W) n k k).toInt ≤ 0 := fun k hk => Int.not_lt.mp (fun z => by
    have := (psd_iff n).mpr ⟨k, hk, z⟩
    rw [hd] at this
    cases this)
  obtain ⟨hB, hC⟩ := B_all hn hW hd' n (Nat.le_refl n)
  have hp := pow10 hn
  refine ⟨fun k hk => ?_, fun i j hi hj w hw => ?_⟩
  · have h1 := prF_spec (F := fwZ n (eW W) n) (k := k) n
    show 0 ≤ (fo (fun j m => mx m (fwZ n (eW W) n k j)) 0 n).toInt ∧ (fo (fun j m => mx m (fwZ n (eW W) n k j)) 0 n).toInt ≤ 100000
    refine ⟨h1.1, ?_⟩
    rcases h1.2.2 with h | ⟨y, hy, h⟩
    · omega
    · have := hB k y hk hy
      omega
  · have m1 := mono_Z (n := n) (F := eW W) (m := n) (a := i) (b := j)
    have e1 : eW W i j = w := by unfold eW; rw [hw]; rfl
    rw [e1] at m1
    have h2 := hW i j hi hj w hw
    have hi' := prF_spec (F := fwZ n (eW W) n) (k := i) n
    have hj' := prF_spec (F := fwZ n (eW W) n) (k := j) n
    show w.toInt + (fo (fun y m => mx m (fwZ n (eW W) n j y)) 0 n).toInt ≤ (fo (fun y m => mx m (fwZ n (eW W) n i y)) 0 n).toInt
    have g1 := hi'.2.1 j hj
    rcases hj'.2.2 with h | ⟨y, hy, h⟩
    · omega
    · have g2 := hi'.2.1 y hy
      have g3 := hC j i y hj hi hy
      have g4 := hj'.1
      have := g3 (by omega) (by omega) (by omega)
      omega
/-- a step nearer to the least potential -/
theorem tight (hD : Pot n W D) (hmin : ∀ Q, Pot n W Q → ∀ k, k < n → D k ≤ Q k) (hp0 : ∀ k, k < n → 0 ≤ p k) (hpD : ∀ k, k < n → p k ≤ D k) (hne : ∃ k, k < n ∧ ¬ p k = D k) : ∃ k j w, k < n ∧ j < n ∧ W k j = some w ∧ ¬ p k = D k ∧ p j = D j ∧ D k ≤ w.toInt + D j := by
  apply Classical.byContradiction
  intro hno
  obtain ⟨k, hk, hkne⟩ := hne
  have hQ : Pot n W (fun i => if p i = D i then D i else D i - 1) := by
    refine ⟨fun i hi => ?_, fun i j hi hj w hw => ?_⟩
    · have h1 := hD.1 i hi
      have h2 := hp0 i hi
      have h3 := hpD i hi
      show 0 ≤ (if p i = D i then D i else D i - 1) ∧ (if p i = D i then D i else D i - 1) ≤ 100000
      split <;> omega
    · have h1 := hD.2 i j hi hj w hw
      show w.toInt + (if p j = D j then D j else D j - 1) ≤ (if p i = D i then D i else D i - 1)
      by_cases qi : p i = D i
      · rw [if_pos qi]
        split <;> omega
      · rw [if_neg qi]
        by_cases qj : p j = D j
        · rw [if_pos qj]
          have : ¬ D i ≤ w.toInt + D j := fun z => hno ⟨i, j, w, hi, hj, hw, qi, qj, z⟩
          omega
        · rw [if_neg qj]
          omega
  have := hmin _ hQ k hk
  have h2 : D k ≤ (if p k = D k then D k else D k - 1) := this
  rw [if_neg hkne] at h2
  omega
def cq (p D : Nat → Int) : Nat → Nat
  | 0 => 0
  | k + 1 => cq p D k + (if p k = D k then 1 else 0)
theorem cq_le : ∀ m, cq p D m ≤ m := fun m => by
  induction m with
  | zero => exact Nat.le_refl 0
  | succ m ih =>
    rw [cq]
    split <;> omega
theorem cq_mono {p' : Nat → Int} : ∀ m, (∀ k, k < m → p k = D k → p' k = D k) → cq p D m ≤ cq p' D m := fun m => by
  induction m with
  | zero => exact fun _ => Nat.le_refl 0
  | succ m ih =>
    intro h
    have h1 := ih (fun k hk => h k (by omega))
    have h2 := h m (Nat.lt_succ_self m)
    rw [cq, cq]
    by_cases q : p m = D m
    · rw [if_pos q, if_pos (h2 q)]
      omega
    · rw [if_neg q]
      omega
theorem cq_strict {p' : Nat → Int} : ∀ m, (∀ k, k < m → p k = D k → p' k = D k) → (∃ k, k < m ∧ ¬ p k = D k ∧ p' k = D k) → cq p D m + 1 ≤ cq p' D m := fun m => by
  induction m with
  | zero => exact fun _ ⟨k, hk, _⟩ => absurd hk (Nat.not_lt_zero k)
  | succ m ih =>
    intro h ⟨k, hk, h3, h4⟩
    rw [cq, cq]
    by_cases e : k = m
    · rw [e] at h3 h4
      have h1 := cq_mono (p := p) (p' := p') (D := D) m (fun k hk => h k (by omega))
      rw [if_neg h3, if_pos h4]
      omega
    · have h1 := ih (fun k hk => h k (by omega)) ⟨k, by omega, h3, h4⟩
      have h2 := h m (Nat.lt_succ_self m)
      by_cases q : p m = D m
      · rw [if_pos q, if_pos (h2 q)]
        omega
      · rw [if_neg q]
        omega
end FW
end P_37_ways
