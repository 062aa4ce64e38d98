/-! OBJECTS AND CONDITIONS of the pure walk -/
section WBASE
def isBl (b : Nat) : Prop := ∃ x, x < 6 ∧ (b = 5 + 18 * x ∨ b = 12 + 18 * x)
def isPl (b : Nat) : Prop := ∃ x, x < 6 ∧ b = 19 + 18 * x
def isOc (o : Nat) : Prop := o = 126 ∨ o = 130
theorem bl_g {x : Nat} (h : x < 6) : isBl (5 + 18 * x) := ⟨x, h, .inl rfl⟩
theorem bl_b {x : Nat} (h : x < 6) : isBl (12 + 18 * x) := ⟨x, h, .inr rfl⟩
theorem pl_of {x : Nat} (h : x < 6) : isPl (19 + 18 * x) := ⟨x, h, rfl⟩
theorem bl_rng {b : Nat} (h : isBl b) : 5 ≤ b ∧ b ≤ 102 := by
  obtain ⟨x, hx, h | h⟩ := h <;> omega
theorem pl_rng {b : Nat} (h : isPl b) : 19 ≤ b ∧ b ≤ 109 := by
  obtain ⟨x, hx, h⟩ := h
  omega
theorem oc_rng {b : Nat} (h : isOc b) : 126 ≤ b ∧ b ≤ 130 := by
  obtain h | h := h <;> omega
theorem kd_bl : ∀ x, x < 6 → ∀ f, f < 7 → kd (5 + 18 * x + f) = (if f = 0 then 0 else 20) ∧ ln (5 + 18 * x + f) = (if f = 0 then 0 else 10) ∧ kd (12 + 18 * x + f) = (if f = 0 then 0 else 20) ∧ ln (12 + 18 * x + f) = (if f = 0 then 0 else 10) := by decide +kernel
theorem kd_pl : ∀ x, x < 6 → ∀ f, f < 4 → kd (19 + 18 * x + f) = (if f = 0 then 5 else 20) ∧ ln (19 + 18 * x + f) = (if f = 0 then 0 else 10) := by decide +kernel
theorem bl_ob {b : Nat} (h : isBl b) : isOb b 0 := by
  obtain ⟨x, hx, h⟩ := h
  have k := kd_bl x hx 0 (by decide)
  refine ⟨?_, by omega⟩
  obtain rfl | rfl := h
  · exact k.1
  · exact k.2.2.1
theorem bl_ar {b : Nat} (h : isBl b) (f : Nat) (hf : 1 ≤ f ∧ f ≤ 6) : isAr (b + f) 10 := by
  obtain ⟨x, hx, h⟩ := h
  have k := kd_bl x hx f (by omega)
  rw [if_neg (by omega), if_neg (by omega)] at k
  obtain rfl | rfl := h
  · exact ⟨k.1, k.2.1, by omega⟩
  · exact ⟨k.2.2.1, k.2.2.2, by omega⟩
theorem pl_ob {b : Nat} (h : isPl b) : isOb b 5 := by
  obtain ⟨x, hx, rfl⟩ := h
  exact ⟨(kd_pl x hx 0 (by decide)).1, by omega⟩
theorem pl_ar {b : Nat} (h : isPl b) (f : Nat) (hf : 1 ≤ f ∧ f ≤ 3) : isAr (b + f) 10 := by
  obtain ⟨x, hx, rfl⟩ := h
  have k := kd_pl x hx f (by omega)
  rw [if_neg (by omega), if_neg (by omega)] at k
  exact ⟨k.1, k.2, by omega⟩
theorem oc_ob {b : Nat} (h : isOc b) : isOb b 4 := by
  obtain rfl | rfl := h <;> exact ⟨by decide, by decide⟩
theorem oc_ar1 {b : Nat} (h : isOc b) : isAr (b + 1) 64 := by
  obtain rfl | rfl := h <;> exact ⟨by decide, by decide, by decide⟩
theorem oc_ar2 {b : Nat} (h : isOc b) : isAr (b + 2) 12 := by
  obtain rfl | rfl := h <;> exact ⟨by decide, by decide, by decide⟩
theorem oc_ar3 {b : Nat} (h : isOc b) : isAr (b + 3) 64 := by
  obtain rfl | rfl := h <;> exact ⟨by decide, by decide, by decide⟩
theorem oc_pos {b : Nat} (h : isOc b) : 0 < b ∧ b < 200 := by
  obtain rfl | rfl := h <;> decide
theorem vp_lt6 {x : Int32} {n : Nat} (h : vp_in x n) : x.toNatClampNeg < n := Nat.not_le.mp (fun c => h (.inr c))
theorem w_alen {z pc nx p q r k n : Nat} {x : Int32} {ls st : List Value} {M : Mem} {κ : Kp} {Q : Ou → Prop} (h : ins z pc = some (.arraylength, nx, p, q, r, x)) (hκ : Rd κ) (ho : isAr k n) (K : RT z (nx, ls, .int (Int32.ofNat n) :: st, M, κ) Q) : RT z (pc, ls, .ref k :: st, M, κ) Q := RT_step (fun o => Run_alen _ _ _ _ _ _ _ _ _ _ _ _ _ h ho.1 (hκ.1 ▸ ho.2.2)) (ho.2.1 ▸ K)
variable {a b : Nat} {x y : Int32}
theorem cN_lt (ha : a < 2147483648) (hb : b < 2147483648) : cnd2 .lt (nI a) (nI b) ↔ a < b := nI_ltI ha hb
theorem cN_ge (ha : a < 2147483648) (hb : b < 2147483648) : cnd2 .ge (nI a) (nI b) ↔ ¬ a < b := (nI_leI hb ha).trans (by omega)
theorem cN_gt (ha : a < 2147483648) (hb : b < 2147483648) : cnd2 .gt (nI a) (nI b) ↔ b < a := nI_ltI hb ha
theorem cN_le (ha : a < 2147483648) (hb : b < 2147483648) : cnd2 .le (nI a) (nI b) ↔ ¬ b < a := (nI_leI ha hb).trans (by omega)
theorem cN_eq (ha : a < 2147483648) (hb : b < 2147483648) : cnd2 .eq (nI a) (nI b) ↔ a = b := nI_eq ha hb
theorem cN_ne (ha : a < 2147483648) (hb : b < 2147483648) : cnd2 .ne (nI a) (nI b) ↔ ¬ a = b := not_congr (nI_eq ha hb)
theorem cZ_lt (ha : a < 2147483648) (hb : 0 < 2147483648) : cnd0 .lt (nI a) ↔ a < 0 := cN_lt ha hb
theorem cZ_ge (ha : a < 2147483648) (hb : 0 < 2147483648) : cnd0 .ge (nI a) ↔ ¬ a < 0 := cN_ge ha hb
theorem cZ_gt (ha : a < 2147483648) (hb : 0 < 2147483648) : cnd0 .gt (nI a) ↔ 0 < a := cN_gt ha hb
theorem cZ_le (ha : a < 2147483648) (hb : 0 < 2147483648) : cnd0 .le (nI a) ↔ ¬ 0 < a := cN_le ha hb
theorem cZ_eq (ha : a < 2147483648) (hb : 0 < 2147483648) : cnd0 .eq (nI a) ↔ a = 0 := cN_eq ha hb
theorem cZ_ne (ha : a < 2147483648) (hb : 0 < 2147483648) : cnd0 .ne (nI a) ↔ ¬ a = 0 := cN_ne ha hb
theorem cI_lt : cnd2 .lt x y ↔ x < y := Iff.rfl
theorem cI_ge : cnd2 .ge x y ↔ ¬ x < y := Int32.not_lt.symm
theorem cI_gt : cnd2 .gt x y ↔ y < x := Iff.rfl
theorem cI_le : cnd2 .le x y ↔ ¬ y < x := Int32.not_lt.symm
theorem cI_eq : cnd2 .eq x y ↔ x = y := Iff.rfl
theorem cI_ne : cnd2 .ne x y ↔ ¬ x = y := Iff.rfl
theorem cI0_lt : cnd0 .lt x ↔ x < 0 := Iff.rfl
theorem cI0_ge : cnd0 .ge x ↔ ¬ x < 0 := Int32.not_lt.symm
theorem cI0_gt : cnd0 .gt x ↔ 0 < x := Iff.rfl
theorem cI0_le : cnd0 .le x ↔ ¬ 0 < x := Int32.not_lt.symm
theorem cI0_eq : cnd0 .eq x ↔ x = 0 := Iff.rfl
theorem cI0_ne : cnd0 .ne x ↔ ¬ x = 0 := Iff.rfl
theorem cB_ne {e : Bool} : cnd0 .ne (bI e) ↔ e = true := (not_congr (Iff.rfl.trans bI_z)).trans (by cases e <;> decide)
theorem cB_eq {e : Bool} : cnd0 .eq (bI e) ↔ ¬ e = true := bI_z
end WBASE
