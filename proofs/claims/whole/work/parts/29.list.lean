/-! LISTS: the schedule that both make -/
section P_29_list
variable {Q : Ou → Prop} {M M0 : Mem} {κ : Kp}
def up (c : Nat → Int32) (k : Nat) (v : Int32) : Nat → Int32 := fun j => if j = k then v else c j
theorem up_s {c : Nat → Int32} {k : Nat} {v : Int32} : up c k v k = v := if_pos rfl
theorem up_o {c : Nat → Int32} {k j : Nat} {v : Int32} (h : ¬ j = k) : up c k v j = c j := if_neg h
def edk (W : Nat → Nat → Option Int32) (c : Nat → Int32) (i k : Nat) (t : Int32) : Bool := match W i k with
  | none => true
  | some w => decide (¬ c i = -1 ∧ ¬ t < c i + w)
def rdy (W : Nat → Nat → Option Int32) (c : Nat → Int32) (k : Nat) (t : Int32) : Nat → Bool
  | 0 => true
  | i + 1 => rdy W c k t i && edk W c i k t
def use (Pt : Nat → Bool) (c : Nat → Int32) (b : Bool) (t : Int32) : Nat → Nat
  | 0 => 0
  | k + 1 => use Pt c b t k + (if c k = t ∧ Pt k = b then 1 else 0)
def eli (n : Nat) (W : Nat → Nat → Option Int32) (Pt : Nat → Bool) (U : Bool → Nat) (c : Nat → Int32) (t : Int32) (k : Nat) : Bool := decide (c k = -1) && decide (use Pt c (Pt k) t n < U (Pt k)) && rdy W c k t k
def pk (n : Nat) (W : Nat → Nat → Option Int32) (H : Nat → Int32) (Pt : Nat → Bool) (U : Bool → Nat) (c : Nat → Int32) (t : Int32) : Nat → Option Nat
  | 0 => none
  | k + 1 => if eli n W Pt U c t k = true then (match pk n W H Pt U c t k with
    | none => some k
    | some b => if H b < H k then some k else some b) else pk n W H Pt U c t k
def eo : Option Nat → Int32
  | none => -1
  | some k => nI k
def sch (c : Nat → Int32) : Nat → Nat
  | 0 => 0
  | k + 1 => if c k = -1 then sch c k else sch c k + 1
theorem rdy_false {W : Nat → Nat → Option Int32} {c : Nat → Int32} {k : Nat} {t : Int32} {i : Nat} (h : rdy W c k t i = false) : ∀ m, i ≤ m → rdy W c k t m = false := by
  intro m hm
  induction m with
  | zero =>
    have e : i = 0 := by omega
    rw [e] at h
    exact h
  | succ m ih =>
    by_cases q : i = m + 1
    · rw [← q]; exact h
    · rw [rdy, ih (by omega)]
      rfl
theorem rdy_edk {W : Nat → Nat → Option Int32} {c : Nat → Int32} {k : Nat} {t : Int32} : ∀ m, rdy W c k t m = false → ∃ i, i < m ∧ edk W c i k t = false
  | 0, h => by cases h
  | m + 1, h => by
    rw [rdy, Bool.and_eq_false_iff] at h
    rcases h with h | h
    · obtain ⟨i, h1, h2⟩ := rdy_edk m h
      exact ⟨i, by omega, h2⟩
    · exact ⟨m, Nat.lt_succ_self m, h⟩
section PICK
variable {n : Nat} {W : Nat → Nat → Option Int32} {H : Nat → Int32} {Pt : Nat → Bool} {U : Bool → Nat} {c : Nat → Int32} {t : Int32}
theorem pkk_lt : ∀ m b, pk n W H Pt U c t m = some b → b < m ∧ eli n W Pt U c t b = true
  | 0, b, h => by cases h
  | m + 1, b, h => by
    rw [pk] at h
    by_cases q : eli n W Pt U c t m = true
    · rw [if_pos q] at h
      cases q2 : pk n W H Pt U c t m with
      | none =>
        rw [q2] at h
        cases h
        exact ⟨Nat.lt_succ_self _, q⟩
      | some a =>
        rw [q2] at h
        have ha := pkk_lt m a q2
        dsimp only at h
        split at h
        · cases h
          exact ⟨Nat.lt_succ_self _, q⟩
        · cases h
          exact ⟨by omega, ha.2⟩
    · rw [if_neg q] at h
      have := pkk_lt m b h
      exact ⟨by omega, this.2⟩
theorem pkk_none : ∀ m, pk n W H Pt U c t m = none → ∀ b, b < m → eli n W Pt U c t b = false
  | 0, h, b, hb => by omega
  | m + 1, h, b, hb => by
    rw [pk] at h
    by_cases q : eli n W Pt U c t m = true
    · rw [if_pos q] at h
      exfalso
      cases q2 : pk n W H Pt U c t m with
      | none => rw [q2] at h; cases h
      | some a =>
        rw [q2] at h
        dsimp only at h
        split at h <;> cases h
    · rw [if_neg q] at h
      by_cases e : b = m
      · rw [e]
        exact Bool.eq_false_iff.mpr q
      · exact pkk_none m h b (by omega)
theorem pkk_no : ∀ m, (∀ b, b < m → eli n W Pt U c t b = false) → pk n W H Pt U c t m = none
  | 0, h => rfl
  | m + 1, h => by
    rw [pk, if_neg (by rw [h m (Nat.lt_succ_self m)]; decide)]
    exact pkk_no m (fun b hb => h b (by omega))
theorem sch_le : ∀ m, sch c m ≤ m
  | 0 => Nat.le_refl 0
  | m + 1 => by
    have := sch_le m
    unfold sch
    split <;> omega
theorem sch_full : ∀ m, sch c m = m → ∀ k, k < m → ¬ c k = -1
  | 0, h, k, hk => by omega
  | m + 1, h, k, hk => by
    have hl := sch_le (c := c) m
    unfold sch at h
    split at h
    · omega
    · by_cases e : k = m
      · rw [e]; assumption
      · exact sch_full m (by omega) k (by omega)
theorem sch_least : ∀ m, sch c m < m → ∃ k, k < m ∧ c k = -1 ∧ ∀ i, i < k → ¬ c i = -1
  | 0, h => by omega
  | m + 1, h => by
    by_cases q : sch c m < m
    · obtain ⟨k, h1, h2, h3⟩ := sch_least m q
      exact ⟨k, by omega, h2, h3⟩
    · have hl := sch_le (c := c) m
      have hf := sch_full (c := c) m (by omega)
      refine ⟨m, Nat.lt_succ_self m, ?_, hf⟩
      unfold sch at h
      split at h
      · assumption
      · omega
theorem sch_same {c' : Nat → Int32} : ∀ m, (∀ k, k < m → c k = c' k) → sch c m = sch c' m
  | 0, h => rfl
  | m + 1, h => by rw [sch, sch, sch_same m (fun k hk => h k (by omega)), h m (Nat.lt_succ_self m)]
theorem sch_up {b : Nat} {v : Int32} (hb : c b = -1) (hv : ¬ v = -1) : ∀ m, sch (up c b v) m = sch c m + (if b < m then 1 else 0)
  | 0 => by rfl
  | m + 1 => by
    rw [sch, sch, sch_up hb hv m]
    by_cases e : m = b
    · subst e
      rw [up_s, if_neg hv, if_pos hb, if_neg (Nat.lt_irrefl _), if_pos (Nat.lt_succ_self _)]
    · rw [up_o e]
      by_cases q : b < m
      · rw [if_pos q, if_pos (show b < m + 1 by omega)]
        split <;> omega
      · rw [if_neg q, if_neg (show ¬ b < m + 1 by omega)]
        split <;> rfl
theorem use_up {b : Nat} {v : Int32} {d : Bool} (hb : ¬ c b = v) : ∀ m, use Pt (up c b v) d v m = use Pt c d v m + (if b < m ∧ Pt b = d then 1 else 0)
  | 0 => by rw [if_neg (fun z => absurd z.1 (Nat.not_lt_zero b))]; rfl
  | m + 1 => by
    rw [use, use, use_up hb m]
    by_cases e : m = b
    · subst e
      rw [up_s, if_neg (fun z : m < m ∧ _ => absurd z.1 (Nat.lt_irrefl _)), if_neg (fun z : c m = v ∧ _ => hb z.1)]
      by_cases q : Pt m = d
      · rw [if_pos ⟨rfl, q⟩, if_pos ⟨Nat.lt_succ_self _, q⟩]
      · rw [if_neg (fun z => q z.2), if_neg (fun z => q z.2)]
    · rw [up_o e]
      have : (b < m ∧ Pt b = d) ↔ (b < m + 1 ∧ Pt b = d) := by
        constructor
        · exact fun z => ⟨by omega, z.2⟩
        · exact fun z => ⟨by omega, z.2⟩
      simp only [this]
      omega
theorem use_le {d : Bool} : ∀ m, use Pt c d t m ≤ m
  | 0 => Nat.le_refl 0
  | m + 1 => by
    have := use_le (d := d) m
    unfold use
    split <;> omega
theorem use_pos {d : Bool} : ∀ m, 0 < use Pt c d t m → ∃ y, y < m ∧ c y = t
  | 0, h => by cases h
  | m + 1, h => by
    unfold use at h
    by_cases q : c m = t ∧ Pt m = d
    · exact ⟨m, Nat.lt_succ_self m, q.1⟩
    · rw [if_neg q] at h
      obtain ⟨y, h1, h2⟩ := use_pos m (by omega)
      exact ⟨y, by omega, h2⟩
theorem pkk_full (h : sch c n = n) : pk n W H Pt U c t n = none := pkk_no n (fun b hb => by
  have := sch_full n h b hb
  unfold eli
  rw [decide_eq_false this]
  rfl)
theorem eli_m1 {b : Nat} (h : eli n W Pt U c t b = true) : c b = -1 := by
  unfold eli at h
  rw [Bool.and_eq_true, Bool.and_eq_true, decide_eq_true_iff] at h
  exact h.1.1
end PICK
/-- one step: an operation gets the cycle, or the next cycle comes -/
def lstep (n : Nat) (W : Nat → Nat → Option Int32) (H : Nat → Int32) (Pt : Nat → Bool) (U : Bool → Nat) (s : (Nat → Int32) × Nat) : (Nat → Int32) × Nat := if sch s.1 n = n then s else match pk n W H Pt U s.1 (nI s.2) n with
  | some k => (up s.1 k (nI s.2), s.2)
  | none => (s.1, s.2 + 1)
def lits (n : Nat) (W : Nat → Nat → Option Int32) (H : Nat → Int32) (Pt : Nat → Bool) (U : Bool → Nat) : Nat → (Nat → Int32) × Nat
  | 0 => (fun _ => -1, 0)
  | m + 1 => lstep n W H Pt U (lits n W H Pt U m)
def Lr (n : Nat) (W : Nat → Nat → Option Int32) (H : Nat → Int32) (Pt : Nat → Bool) (U : Bool → Nat) (c : Nat → Int32) (t : Nat) : Prop := ∃ m, lits n W H Pt U m = (c, t)
section LIST
variable {n : Nat} {W : Nat → Nat → Option Int32} {H : Nat → Int32} {Pt : Nat → Bool} {U : Bool → Nat} {c : Nat → Int32} {t : Nat}
theorem Lr_0 : Lr n W H Pt U (fun _ => -1) 0 := ⟨0, rfl⟩
theorem Lr_pick (h : Lr n W H Pt U c t) {k : Nat} (hp : pk n W H Pt U c (nI t) n = some k) : Lr n W H Pt U (up c k (nI t)) t := by
  obtain ⟨m, h⟩ := h
  refine ⟨m + 1, ?_⟩
  rw [lits, h, lstep]
  dsimp only
  have hn : ¬ sch c n = n := fun z => by rw [pkk_full z] at hp; cases hp
  rw [if_neg hn, hp]
theorem Lr_next (h : Lr n W H Pt U c t) (hn : ¬ sch c n = n) (hp : pk n W H Pt U c (nI t) n = none) : Lr n W H Pt U c (t + 1) := by
  obtain ⟨m, h⟩ := h
  refine ⟨m + 1, ?_⟩
  rw [lits, h, lstep]
  dsimp only
  rw [if_neg hn, hp]
theorem lits_stay {m : Nat} (h : sch (lits n W H Pt U m).1 n = n) : ∀ d, lits n W H Pt U (m + d) = lits n W H Pt U m
  | 0 => rfl
  | d + 1 => by
    rw [← Nat.add_assoc, lits, lits_stay h d, lstep, if_pos h]
theorem Lr_uni {c' : Nat → Int32} {t' : Nat} (h : Lr n W H Pt U c t) (h' : Lr n W H Pt U c' t') (hf : sch c n = n) (hf' : sch c' n = n) : c = c' := by
  obtain ⟨m, h⟩ := h
  obtain ⟨m', h'⟩ := h'
  have e1 := lits_stay (n := n) (W := W) (H := H) (Pt := Pt) (U := U) (m := m) (by rw [h]; exact hf)
  have e2 := lits_stay (n := n) (W := W) (H := H) (Pt := Pt) (U := U) (m := m') (by rw [h']; exact hf')
  rcases Nat.le_total m m' with q | q
  · have := e1 (m' - m)
    rw [Nat.add_sub_cancel' q, h, h'] at this
    exact (congrArg Prod.fst this).symm
  · have := e2 (m - m')
    rw [Nat.add_sub_cancel' q, h, h'] at this
    exact congrArg Prod.fst this
/-- how far a schedule can come -/
def Linv (n : Nat) (c : Nat → Int32) (t : Nat) : Prop := ∃ g : Nat, (∀ k, k < n → ¬ c k = -1 → ∃ a, c k = nI a ∧ a ≤ t ∧ a + 8 ≤ g) ∧ g ≤ 8 * sch c n ∧ t ≤ g
theorem Linv_le (h : Linv n c t) (hn : n ≤ 10) : t ≤ 80 ∧ ∀ k, k < n → ¬ c k = -1 → ∃ a, c k = nI a ∧ a ≤ 72 ∧ a ≤ t := by
  obtain ⟨g, h1, h2, h3⟩ := h
  have := sch_le (c := c) n
  refine ⟨by omega, fun k hk hc => ?_⟩
  obtain ⟨a, q1, q2, q3⟩ := h1 k hk hc
  exact ⟨a, q1, by omega, q2⟩
theorem Linv_0 : Linv n (fun _ => -1) 0 := ⟨0, fun k hk h => absurd rfl h, Nat.zero_le _, Nat.le_refl 0⟩
theorem Linv_pick (h : Linv n c t) (hn : n ≤ 10) {k : Nat} (hk : k < n) (hc : c k = -1) : Linv n (up c k (nI t)) t := by
  have hl := (Linv_le h hn).1
  obtain ⟨g, h1, h2, h3⟩ := h
  refine ⟨if g < t + 8 then t + 8 else g, fun j hj hj' => ?_, ?_, ?_⟩
  · by_cases e : j = k
    · subst e
      exact ⟨t, up_s, Nat.le_refl t, by split <;> omega⟩
    · rw [up_o e] at hj' ⊢
      obtain ⟨a, q1, q2, q3⟩ := h1 j hj hj'
      exact ⟨a, q1, q2, by split <;> omega⟩
  · rw [sch_up hc (nI_m1 (by omega)), if_pos hk]
    split <;> omega
  · split <;> omega
theorem Linv_next (h : Linv n c t) (hn : n ≤ 10) (hU : ∀ b, 1 ≤ U b) (hW : ∀ i j, i < n → j < n → ∀ w, W i j = some w → -64008 ≤ w.toInt ∧ w.toInt ≤ 8) (hf : ¬ sch c n = n) (hp : pk n W H Pt U c (nI t) n = none) : Linv n c (t + 1) := by
  have hl := Linv_le h hn
  obtain ⟨g, h1, h2, h3⟩ := h
  have hle := sch_le (c := c) n
  obtain ⟨k, hk, hck, hlt⟩ := sch_least (c := c) n (by omega)
  have he := pkk_none n hp k hk
  have main : ∃ i, i < n ∧ ∃ a, c i = nI a ∧ t ≤ a + 7 ∧ a ≤ 80 := by
    unfold eli at he
    rw [decide_eq_true hck, Bool.true_and, Bool.and_eq_false_iff, decide_eq_false_iff_not] at he
    rcases he with he | he
    · have hu := hU (Pt k)
      obtain ⟨y, hy, hyt⟩ := use_pos (c := c) (Pt := Pt) (d := Pt k) (t := nI t) n (by omega)
      exact ⟨y, hy, t, hyt, by omega, hl.1⟩
    · obtain ⟨i, hi, hed⟩ := rdy_edk k he
      have hci := hlt i hi
      obtain ⟨a, q1, q2, q3⟩ := hl.2 i (by omega) hci
      refine ⟨i, by omega, a, q1, ?_, by omega⟩
      unfold edk at hed
      cases hw : W i k with
      | none => rw [hw] at hed; cases hed
      | some w =>
        rw [hw] at hed
        have hw' := hW i k (by omega) hk w hw
        have hed := of_decide_eq_false hed
        have h9 : nI t < c i + w := Classical.byContradiction (fun z => hed ⟨hci, z⟩)
        rw [q1, ltI, l_add (by rw [nI_toInt (by omega)]; omega) (by omega), nI_toInt (by omega), nI_toInt (by omega)] at h9
        omega
  obtain ⟨i, hi, a, ha, hta, ha8⟩ := main
  refine ⟨g, fun j hj hj' => ?_, h2, ?_⟩
  · obtain ⟨b, q1, q2, q3⟩ := h1 j hj hj'
    exact ⟨b, q1, by omega, q3⟩
  · have hci : ¬ c i = -1 := by
      rw [ha]
      exact nI_m1 (by omega)
    obtain ⟨b, q1, q2, q3⟩ := h1 i hi hci
    have ht8 := hl.1
    have hb : a = b := (nI_eq (by omega) (by omega)).mp (ha.symm.trans q1)
    omega
end LIST
theorem i_27_0 : ins 27 0 = some (.iload_n 3, 1, 3, 0, 0, 0) := rfl
theorem i_27_1 : ins 27 1 = some (.istore 4, 3, 4, 0, 0, 0) := rfl
theorem i_27_3 : ins 27 3 = some (.iconst 0, 4, 0, 0, 0, 0) := rfl
theorem i_27_4 : ins 27 4 = some (.istore 5, 6, 5, 0, 0, 0) := rfl
theorem i_27_6 : ins 27 6 = some (.iload 5, 8, 5, 0, 0, 0) := rfl
theorem i_27_8 : ins 27 8 = some (.aload_n 0, 9, 0, 0, 0, 0) := rfl
theorem i_27_9 : ins 27 9 = some (.getfield 9, 12, 1, 0, 0, 0) := rfl
theorem i_27_12 : ins 27 12 = some (.if_icmp .ge 48, 15, 60, 0, 0, 0) := rfl
theorem i_27_15 : ins 27 15 = some (.aload_n 0, 16, 0, 0, 0, 0) := rfl
theorem i_27_16 : ins 27 16 = some (.getfield 39, 19, 1, 8, 0, 0) := rfl
theorem i_27_19 : ins 27 19 = some (.iload_n 1, 20, 1, 0, 0, 0) := rfl
theorem i_27_20 : ins 27 20 = some (.iload 5, 22, 5, 0, 0, 0) := rfl
theorem i_27_22 : ins 27 22 = some (.invokestatic 74, 25, 15, 1, 2, 0) := rfl
theorem i_27_25 : ins 27 25 = some (.iaload, 26, 0, 0, 0, 0) := rfl
theorem i_27_26 : ins 27 26 = some (.ldc 85, 28, 85, 0, 0, (-1000000)) := rfl
theorem i_27_28 : ins 27 28 = some (.if_icmp .eq 26, 31, 54, 0, 0, 0) := rfl
theorem i_27_31 : ins 27 31 = some (.iload 4, 33, 4, 0, 0, 0) := rfl
theorem i_27_33 : ins 27 33 = some (.aload_n 0, 34, 0, 0, 0, 0) := rfl
theorem i_27_34 : ins 27 34 = some (.getfield 39, 37, 1, 8, 0, 0) := rfl
theorem i_27_37 : ins 27 37 = some (.iload_n 1, 38, 1, 0, 0, 0) := rfl
theorem i_27_38 : ins 27 38 = some (.iload 5, 40, 5, 0, 0, 0) := rfl
theorem i_27_40 : ins 27 40 = some (.invokestatic 74, 43, 15, 1, 2, 0) := rfl
theorem i_27_43 : ins 27 43 = some (.iaload, 44, 0, 0, 0, 0) := rfl
theorem i_27_44 : ins 27 44 = some (.aload_n 2, 45, 2, 0, 0, 0) := rfl
theorem i_27_45 : ins 27 45 = some (.iload 5, 47, 5, 0, 0, 0) := rfl
theorem i_27_47 : ins 27 47 = some (.iaload, 48, 0, 0, 0, 0) := rfl
theorem i_27_48 : ins 27 48 = some (.iadd, 49, 0, 0, 0, 0) := rfl
theorem i_27_49 : ins 27 49 = some (.invokestatic 93, 52, 164, 1, 2, 0) := rfl
theorem i_27_52 : ins 27 52 = some (.istore 4, 54, 4, 0, 0, 0) := rfl
theorem i_27_54 : ins 27 54 = some (.iinc 5 1, 57, 5, 0, 0, 1) := rfl
theorem i_27_57 : ins 27 57 = some (.goto (-51), 60, 6, 0, 0, 0) := rfl
theorem i_27_60 : ins 27 60 = some (.iload 4, 62, 4, 0, 0, 0) := rfl
theorem i_27_62 : ins 27 62 = some (.ireturn, 63, 0, 0, 0, 0) := rfl
theorem S27_0 {Q : Ou → Prop} {M : Mem} {κ : Kp} (hκ : Rd κ) {n k j v : Nat} (hv : isAr v 10) (hk : k < n) (hj : j ≤ n) (hn : n ≤ 10) (hc : M 113 0 = nI n) {m : Int32}
    (k1 : RT 27 (6, [.ref 113, .int (nI k), .ref v, UU, .int m, .int (nI 0)], [], M, κ) Q)
    : RT 27 (0, [.ref 113, .int (nI k), .ref v, .int m, UU, UU], [], M, κ) Q := by
  refine w_load i_27_0 rfl rfl ?_
  refine w_store (l1 := [.ref 113, .int (nI k), .ref v, .int m, .int m, UU]) i_27_1 rfl (Nat.le_of_ble_eq_true rfl) rfl ?_
  refine w_push i_27_3 rfl ?_
  refine w_store (l1 := [.ref 113, .int (nI k), .ref v, .int m, .int m, .int 0]) i_27_4 rfl (Nat.le_of_ble_eq_true rfl) rfl ?_
  exact w_weak (lle_s (lle_s (lle_s (lle_u (lle_s (lle_s lle_n)))))) (k1)
theorem S27_6 {Q : Ou → Prop} {M : Mem} {κ : Kp} (hκ : Rd κ) {n k j v : Nat} (hv : isAr v 10) (hk : k < n) (hj : j ≤ n) (hn : n ≤ 10) (hc : M 113 0 = nI n) {m : Int32}
    (k1 : j < n → RT 27 (6, [.ref 113, .int (nI k), .ref v, UU, .int (if (M 118 (k * 10 + j)) = (-1000000) then m else (mx m ((M 118 (k * 10 + j)) + (M v j)))), .int (nI (j + 1))], [], M, κ) Q)
    (k2 : ¬ (j < n) → Q (.inl (some (.int m)), M, κ))
    : RT 27 (6, [.ref 113, .int (nI k), .ref v, UU, .int m, .int (nI j)], [], M, κ) Q := by
  refine w_load i_27_6 rfl rfl ?_
  refine w_load i_27_8 rfl rfl ?_
  refine w_getI (v := (nI n)) i_27_9 hκ (⟨rfl, by decide⟩ : isOb 113 1) rfl (hc) ?_
  refine w_if2n (j < n) i_27_12 (cN_ge (a := j) (b := n) (by omega) (by omega)) ?_ ?_
  · intro h1
    refine w_load i_27_15 rfl rfl ?_
    refine w_getR 118 i_27_16 hκ (⟨rfl, by decide⟩ : isOb 113 1) rfl rfl ?_
    refine w_load i_27_19 rfl rfl ?_
    refine w_load i_27_20 rfl rfl ?_
    refine w_callS i_27_22 ⟨by decide, by decide, by decide, rfl, rfl⟩ (av := [.int (nI k), .int (nI j)]) (rest := [.ref 118]) rfl rfl (Nat.le_of_ble_eq_true rfl) (v := some (.int (nI (k * 10 + j)))) (c15N hκ) ?_
    refine w_ialdN (e := (k * 10 + j)) (v := (M 118 (k * 10 + j))) i_27_25 hκ (⟨rfl, rfl, by decide⟩ : isAr 118 100) (by omega) (by decide) (rfl) ?_
    refine w_push i_27_26 rfl ?_
    have K2 : RT 27 (54, [.ref 113, .int (nI k), .ref v, UU, .int (if (M 118 (k * 10 + j)) = (-1000000) then m else (mx m ((M 118 (k * 10 + j)) + (M v j)))), .int (nI j)], [], M, κ) Q := by
      refine w_iincN (n := j) (l1 := [.ref 113, .int (nI k), .ref v, UU, .int (if (M 118 (k * 10 + j)) = (-1000000) then m else (mx m ((M 118 (k * 10 + j)) + (M v j)))), .int (nI (j + 1))]) 1 i_27_54 rfl rfl ?_
      refine w_goto i_27_57 ?_
      exact (k1 h1)
    refine w_if2 ((M 118 (k * 10 + j)) = (-1000000)) i_27_28 cI_eq ?_ ?_
    · intro h3
      exact (by first | exact (K2) | (have K9 := K2; simp only [↓if_pos h3] at K9 ⊢; exact (K9)))
    · intro h4
      refine w_load i_27_31 rfl rfl ?_
      refine w_load i_27_33 rfl rfl ?_
      refine w_getR 118 i_27_34 hκ (⟨rfl, by decide⟩ : isOb 113 1) rfl rfl ?_
      refine w_load i_27_37 rfl rfl ?_
      refine w_load i_27_38 rfl rfl ?_
      refine w_callS i_27_40 ⟨by decide, by decide, by decide, rfl, rfl⟩ (av := [.int (nI k), .int (nI j)]) (rest := [.ref 118, .int m]) rfl rfl (Nat.le_of_ble_eq_true rfl) (v := some (.int (nI (k * 10 + j)))) (c15N hκ) ?_
      refine w_ialdN (e := (k * 10 + j)) (v := (M 118 (k * 10 + j))) i_27_43 hκ (⟨rfl, rfl, by decide⟩ : isAr 118 100) (by omega) (by decide) (rfl) ?_
      refine w_load i_27_44 rfl rfl ?_
      refine w_load i_27_45 rfl rfl ?_
      refine w_ialdN (e := j) (v := (M v j)) i_27_47 hκ hv (by omega) (by decide) (rfl) ?_
      refine w_bin (w := ((M 118 (k * 10 + j)) + (M v j))) i_27_48 rfl rfl ?_
      refine w_mmax i_27_49 rfl (by decide) (Nat.le_of_ble_eq_true rfl) ?_
      refine w_store (l1 := [.ref 113, .int (nI k), .ref v, UU, .int (mx m ((M 118 (k * 10 + j)) + (M v j))), .int (nI j)]) i_27_52 rfl (Nat.le_of_ble_eq_true rfl) rfl ?_
      exact (by first | exact (K2) | (have K9 := K2; simp only [↓if_neg h4] at K9 ⊢; exact (K9)))
  · intro h5
    refine w_load i_27_60 rfl rfl ?_
    exact w_iret i_27_62 (.inl rfl) (k2 h5)
theorem i_29_0 : ins 29 0 = some (.iconst 0, 1, 0, 0, 0, 0) := rfl
theorem i_29_1 : ins 29 1 = some (.istore_n 2, 2, 2, 0, 0, 0) := rfl
theorem i_29_2 : ins 29 2 = some (.iconst 0, 3, 0, 0, 0, 0) := rfl
theorem i_29_3 : ins 29 3 = some (.istore_n 3, 4, 3, 0, 0, 0) := rfl
theorem i_29_4 : ins 29 4 = some (.iload_n 3, 5, 3, 0, 0, 0) := rfl
theorem i_29_5 : ins 29 5 = some (.aload_n 0, 6, 0, 0, 0, 0) := rfl
theorem i_29_6 : ins 29 6 = some (.getfield 9, 9, 1, 0, 0, 0) := rfl
theorem i_29_9 : ins 29 9 = some (.if_icmp .ge 24, 12, 33, 0, 0, 0) := rfl
theorem i_29_12 : ins 29 12 = some (.iload_n 2, 13, 2, 0, 0, 0) := rfl
theorem i_29_13 : ins 29 13 = some (.aload_n 1, 14, 1, 0, 0, 0) := rfl
theorem i_29_14 : ins 29 14 = some (.iload_n 3, 15, 3, 0, 0, 0) := rfl
theorem i_29_15 : ins 29 15 = some (.iaload, 16, 0, 0, 0, 0) := rfl
theorem i_29_16 : ins 29 16 = some (.aload_n 0, 17, 0, 0, 0, 0) := rfl
theorem i_29_17 : ins 29 17 = some (.getfield 29, 20, 1, 5, 0, 0) := rfl
theorem i_29_20 : ins 29 20 = some (.iload_n 3, 21, 3, 0, 0, 0) := rfl
theorem i_29_21 : ins 29 21 = some (.iaload, 22, 0, 0, 0, 0) := rfl
theorem i_29_22 : ins 29 22 = some (.iadd, 23, 0, 0, 0, 0) := rfl
theorem i_29_23 : ins 29 23 = some (.invokestatic 93, 26, 164, 1, 2, 0) := rfl
theorem i_29_26 : ins 29 26 = some (.istore_n 2, 27, 2, 0, 0, 0) := rfl
theorem i_29_27 : ins 29 27 = some (.iinc 3 1, 30, 3, 0, 0, 1) := rfl
theorem i_29_30 : ins 29 30 = some (.goto (-26), 33, 4, 0, 0, 0) := rfl
theorem i_29_33 : ins 29 33 = some (.iload_n 2, 34, 2, 0, 0, 0) := rfl
theorem i_29_34 : ins 29 34 = some (.ireturn, 35, 0, 0, 0, 0) := rfl
theorem S29_0 {Q : Ou → Prop} {M : Mem} {κ : Kp} (hκ : Rd κ) {n k v : Nat} (hv : isAr v 10) (hk : k ≤ n) (hn : n ≤ 10) (hc : M 113 0 = nI n) 
    (k1 : RT 29 (4, [.ref 113, .ref v, .int 0, .int (nI 0)], [], M, κ) Q)
    : RT 29 (0, [.ref 113, .ref v, UU, UU], [], M, κ) Q := by
  refine w_push i_29_0 rfl ?_
  refine w_store (l1 := [.ref 113, .ref v, .int 0, UU]) i_29_1 rfl (Nat.le_of_ble_eq_true rfl) rfl ?_
  refine w_push i_29_2 rfl ?_
  refine w_store (l1 := [.ref 113, .ref v, .int 0, .int 0]) i_29_3 rfl (Nat.le_of_ble_eq_true rfl) rfl ?_
  exact (k1)
theorem S29_4 {Q : Ou → Prop} {M : Mem} {κ : Kp} (hκ : Rd κ) {n k v : Nat} (hv : isAr v 10) (hk : k ≤ n) (hn : n ≤ 10) (hc : M 113 0 = nI n) {m : Int32}
    (k1 : k < n → RT 29 (4, [.ref 113, .ref v, .int (mx m ((M v k) + (M 115 k))), .int (nI (k + 1))], [], M, κ) Q)
    (k2 : ¬ (k < n) → Q (.inl (some (.int m)), M, κ))
    : RT 29 (4, [.ref 113, .ref v, .int m, .int (nI k)], [], M, κ) Q := by
  refine w_load i_29_4 rfl rfl ?_
  refine w_load i_29_5 rfl rfl ?_
  refine w_getI (v := (nI n)) i_29_6 hκ (⟨rfl, by decide⟩ : isOb 113 1) rfl (hc) ?_
  refine w_if2n (k < n) i_29_9 (cN_ge (a := k) (b := n) (by omega) (by omega)) ?_ ?_
  · intro h1
    refine w_load i_29_12 rfl rfl ?_
    refine w_load i_29_13 rfl rfl ?_
    refine w_load i_29_14 rfl rfl ?_
    refine w_ialdN (e := k) (v := (M v k)) i_29_15 hκ hv (by omega) (by decide) (rfl) ?_
    refine w_load i_29_16 rfl rfl ?_
    refine w_getR 115 i_29_17 hκ (⟨rfl, by decide⟩ : isOb 113 1) rfl rfl ?_
    refine w_load i_29_20 rfl rfl ?_
    refine w_ialdN (e := k) (v := (M 115 k)) i_29_21 hκ (⟨rfl, rfl, by decide⟩ : isAr 115 10) (by omega) (by decide) (rfl) ?_
    refine w_bin (w := ((M v k) + (M 115 k))) i_29_22 rfl rfl ?_
    refine w_mmax i_29_23 rfl (by decide) (Nat.le_of_ble_eq_true rfl) ?_
    refine w_store (l1 := [.ref 113, .ref v, .int (mx m ((M v k) + (M 115 k))), .int (nI k)]) i_29_26 rfl (Nat.le_of_ble_eq_true rfl) rfl ?_
    refine w_iincN (n := k) (l1 := [.ref 113, .ref v, .int (mx m ((M v k) + (M 115 k))), .int (nI (k + 1))]) 1 i_29_27 rfl rfl ?_
    refine w_goto i_29_30 ?_
    exact (k1 h1)
  · intro h2
    refine w_load i_29_33 rfl rfl ?_
    exact w_iret i_29_34 (.inl rfl) (k2 h2)
theorem i_33_0 : ins 33 0 = some (.iconst 0, 1, 0, 0, 0, 0) := rfl
theorem i_33_1 : ins 33 1 = some (.istore 4, 3, 4, 0, 0, 0) := rfl
theorem i_33_3 : ins 33 3 = some (.iload 4, 5, 4, 0, 0, 0) := rfl
theorem i_33_5 : ins 33 5 = some (.iload_n 2, 6, 2, 0, 0, 0) := rfl
theorem i_33_6 : ins 33 6 = some (.if_icmp .ge 56, 9, 62, 0, 0, 0) := rfl
theorem i_33_9 : ins 33 9 = some (.aload_n 0, 10, 0, 0, 0, 0) := rfl
theorem i_33_10 : ins 33 10 = some (.getfield 66, 13, 1, 8, 0, 0) := rfl
theorem i_33_13 : ins 33 13 = some (.iload 4, 15, 4, 0, 0, 0) := rfl
theorem i_33_15 : ins 33 15 = some (.iload_n 2, 16, 2, 0, 0, 0) := rfl
theorem i_33_16 : ins 33 16 = some (.invokestatic 69, 19, 15, 1, 2, 0) := rfl
theorem i_33_19 : ins 33 19 = some (.iaload, 20, 0, 0, 0, 0) := rfl
theorem i_33_20 : ins 33 20 = some (.istore 5, 22, 5, 0, 0, 0) := rfl
theorem i_33_22 : ins 33 22 = some (.iload 5, 24, 5, 0, 0, 0) := rfl
theorem i_33_24 : ins 33 24 = some (.ldc 73, 26, 73, 0, 0, (-1000000)) := rfl
theorem i_33_26 : ins 33 26 = some (.if_icmp .eq 30, 29, 56, 0, 0, 0) := rfl
theorem i_33_29 : ins 33 29 = some (.aload_n 1, 30, 1, 0, 0, 0) := rfl
theorem i_33_30 : ins 33 30 = some (.getfield 32, 33, 5, 6, 0, 0) := rfl
theorem i_33_33 : ins 33 33 = some (.iload 4, 35, 4, 0, 0, 0) := rfl
theorem i_33_35 : ins 33 35 = some (.iaload, 36, 0, 0, 0, 0) := rfl
theorem i_33_36 : ins 33 36 = some (.iconst (-1), 37, 0, 0, 0, (-1)) := rfl
theorem i_33_37 : ins 33 37 = some (.if_icmp .eq 17, 40, 54, 0, 0, 0) := rfl
theorem i_33_40 : ins 33 40 = some (.aload_n 1, 41, 1, 0, 0, 0) := rfl
theorem i_33_41 : ins 33 41 = some (.getfield 32, 44, 5, 6, 0, 0) := rfl
theorem i_33_44 : ins 33 44 = some (.iload 4, 46, 4, 0, 0, 0) := rfl
theorem i_33_46 : ins 33 46 = some (.iaload, 47, 0, 0, 0, 0) := rfl
theorem i_33_47 : ins 33 47 = some (.iload 5, 49, 5, 0, 0, 0) := rfl
theorem i_33_49 : ins 33 49 = some (.iadd, 50, 0, 0, 0, 0) := rfl
theorem i_33_50 : ins 33 50 = some (.iload_n 3, 51, 3, 0, 0, 0) := rfl
theorem i_33_51 : ins 33 51 = some (.if_icmp .le 5, 54, 56, 0, 0, 0) := rfl
theorem i_33_54 : ins 33 54 = some (.iconst 0, 55, 0, 0, 0, 0) := rfl
theorem i_33_55 : ins 33 55 = some (.ireturn, 56, 0, 0, 0, 0) := rfl
theorem i_33_56 : ins 33 56 = some (.iinc 4 1, 59, 4, 0, 0, 1) := rfl
theorem i_33_59 : ins 33 59 = some (.goto (-56), 62, 3, 0, 0, 0) := rfl
theorem i_33_62 : ins 33 62 = some (.iconst 1, 63, 0, 0, 0, 1) := rfl
theorem i_33_63 : ins 33 63 = some (.ireturn, 64, 0, 0, 0, 0) := rfl
theorem S33_0 {Q : Ou → Prop} {M : Mem} {κ : Kp} (hκ : Rd κ) {p n k i : Nat} (hp : isPl p) (hk : k < n) (hi : i ≤ k) (hn : n ≤ 10) (hc : M 113 0 = nI n) {t : Nat} (b_t : t ≤ 100000)
    (k1 : RT 33 (3, [.ref 113, .ref p, .int (nI k), .int (nI t), .int (nI 0), UU], [], M, κ) Q)
    : RT 33 (0, [.ref 113, .ref p, .int (nI k), .int (nI t), UU, UU], [], M, κ) Q := by
  refine w_push i_33_0 rfl ?_
  refine w_store (l1 := [.ref 113, .ref p, .int (nI k), .int (nI t), .int 0, UU]) i_33_1 rfl (Nat.le_of_ble_eq_true rfl) rfl ?_
  exact (k1)
theorem S33_3 {Q : Ou → Prop} {M : Mem} {κ : Kp} (hκ : Rd κ) {p n k i : Nat} (hp : isPl p) (hk : k < n) (hi : i ≤ k) (hn : n ≤ 10) (hc : M 113 0 = nI n) {t : Nat} (b_t : t ≤ 100000)
    (k1 : i < k → (M 118 (i * 10 + k)) = (-1000000) → RT 33 (3, [.ref 113, .ref p, .int (nI k), .int (nI t), .int (nI (i + 1)), UU], [], M, κ) Q)
    (k2 : i < k → ¬ ((M 118 (i * 10 + k)) = (-1000000)) → (((M (p + 2) i) = (-1)) ∨ ((¬ ((M (p + 2) i) = (-1))) ∧ ((nI t) < ((M (p + 2) i) + (M 118 (i * 10 + k)))))) → Q (.inl (some (.int 0)), M, κ))
    (k3 : i < k → ¬ ((M 118 (i * 10 + k)) = (-1000000)) → ¬ ((M (p + 2) i) = (-1)) → ¬ ((nI t) < ((M (p + 2) i) + (M 118 (i * 10 + k)))) → RT 33 (3, [.ref 113, .ref p, .int (nI k), .int (nI t), .int (nI (i + 1)), UU], [], M, κ) Q)
    (k4 : ¬ (i < k) → Q (.inl (some (.int 1)), M, κ))
    : RT 33 (3, [.ref 113, .ref p, .int (nI k), .int (nI t), .int (nI i), UU], [], M, κ) Q := by
  refine w_load i_33_3 rfl rfl ?_
  refine w_load i_33_5 rfl rfl ?_
  refine w_if2n (i < k) i_33_6 (cN_ge (a := i) (b := k) (by omega) (by omega)) ?_ ?_
  · intro h1
    refine w_load i_33_9 rfl rfl ?_
    refine w_getR 118 i_33_10 hκ (⟨rfl, by decide⟩ : isOb 113 1) rfl rfl ?_
    refine w_load i_33_13 rfl rfl ?_
    refine w_load i_33_15 rfl rfl ?_
    refine w_callS i_33_16 ⟨by decide, by decide, by decide, rfl, rfl⟩ (av := [.int (nI i), .int (nI k)]) (rest := [.ref 118]) rfl rfl (Nat.le_of_ble_eq_true rfl) (v := some (.int (nI (i * 10 + k)))) (c15N hκ) ?_
    refine w_ialdN (e := (i * 10 + k)) (v := (M 118 (i * 10 + k))) i_33_19 hκ (⟨rfl, rfl, by decide⟩ : isAr 118 100) (by omega) (by decide) (rfl) ?_
    refine w_store (l1 := [.ref 113, .ref p, .int (nI k), .int (nI t), .int (nI i), .int (M 118 (i * 10 + k))]) i_33_20 rfl (Nat.le_of_ble_eq_true rfl) rfl ?_
    refine w_load i_33_22 rfl rfl ?_
    refine w_push i_33_24 rfl ?_
    refine w_if2 ((M 118 (i * 10 + k)) = (-1000000)) i_33_26 cI_eq ?_ ?_
    · intro h2
      refine w_iincN (n := i) (l1 := [.ref 113, .ref p, .int (nI k), .int (nI t), .int (nI (i + 1)), .int (M 118 (i * 10 + k))]) 1 i_33_56 rfl rfl ?_
      refine w_goto i_33_59 ?_
      exact w_weak (lle_s (lle_s (lle_s (lle_s (lle_s (lle_u lle_n)))))) (k1 h1 h2)
    · intro h3
      refine w_load i_33_29 rfl rfl ?_
      refine w_getR (p + 2) i_33_30 hκ (pl_ob hp) rfl rfl ?_
      refine w_load i_33_33 rfl rfl ?_
      refine w_ialdN (e := i) (v := (M (p + 2) i)) i_33_35 hκ (pl_ar hp 2 (by decide)) (by omega) (by decide) (rfl) ?_
      refine w_push i_33_36 rfl ?_
      have K4 : (((M (p + 2) i) = (-1)) ∨ ((¬ ((M (p + 2) i) = (-1))) ∧ ((nI t) < ((M (p + 2) i) + (M 118 (i * 10 + k)))))) → RT 33 (54, [.ref 113, .ref p, .int (nI k), .int (nI t), .int (nI i), .int (M 118 (i * 10 + k))], [], M, κ) Q := by
        intro h5
        refine w_push i_33_54 rfl ?_
        exact w_iret i_33_55 (.inr ⟨rfl, rfl⟩) (k2 h1 h3 h5)
      refine w_if2 ((M (p + 2) i) = (-1)) i_33_37 cI_eq ?_ ?_
      · intro h6
        exact (by first | exact (K4 (.inl h6)) | (have K9 := K4 (.inl h6); simp only [↓if_pos h6] at K9 ⊢; exact (K9)))
      · intro h7
        refine w_load i_33_40 rfl rfl ?_
        refine w_getR (p + 2) i_33_41 hκ (pl_ob hp) rfl rfl ?_
        refine w_load i_33_44 rfl rfl ?_
        refine w_ialdN (e := i) (v := (M (p + 2) i)) i_33_46 hκ (pl_ar hp 2 (by decide)) (by omega) (by decide) (rfl) ?_
        refine w_load i_33_47 rfl rfl ?_
        refine w_bin (w := ((M (p + 2) i) + (M 118 (i * 10 + k)))) i_33_49 rfl rfl ?_
        refine w_load i_33_50 rfl rfl ?_
        refine w_if2n ((nI t) < ((M (p + 2) i) + (M 118 (i * 10 + k)))) i_33_51 cI_le ?_ ?_
        · intro h8
          exact (by first | exact (K4 (.inr ⟨h7, h8⟩)) | (have K9 := K4 (.inr ⟨h7, h8⟩); simp only [↓if_neg h7, ↓if_pos h8] at K9 ⊢; exact (K9)))
        · intro h9
          refine w_iincN (n := i) (l1 := [.ref 113, .ref p, .int (nI k), .int (nI t), .int (nI (i + 1)), .int (M 118 (i * 10 + k))]) 1 i_33_56 rfl rfl ?_
          refine w_goto i_33_59 ?_
          exact w_weak (lle_s (lle_s (lle_s (lle_s (lle_s (lle_u lle_n)))))) (k3 h1 h3 h7 h9)
  · intro h10
    refine w_push i_33_62 rfl ?_
    exact w_iret i_33_63 (.inr ⟨rfl, rfl⟩) (k4 h10)
theorem i_32_0 : ins 32 0 = some (.iconst (-1), 1, 0, 0, 0, (-1)) := rfl
theorem i_32_1 : ins 32 1 = some (.istore 5, 3, 5, 0, 0, 0) := rfl
theorem i_32_3 : ins 32 3 = some (.iconst 0, 4, 0, 0, 0, 0) := rfl
theorem i_32_4 : ins 32 4 = some (.istore 6, 6, 6, 0, 0, 0) := rfl
theorem i_32_6 : ins 32 6 = some (.iload 6, 8, 6, 0, 0, 0) := rfl
theorem i_32_8 : ins 32 8 = some (.aload_n 0, 9, 0, 0, 0, 0) := rfl
theorem i_32_9 : ins 32 9 = some (.getfield 15, 12, 1, 0, 0, 0) := rfl
theorem i_32_12 : ins 32 12 = some (.if_icmp .ge 89, 15, 101, 0, 0, 0) := rfl
theorem i_32_15 : ins 32 15 = some (.aload_n 0, 16, 0, 0, 0, 0) := rfl
theorem i_32_16 : ins 32 16 = some (.getfield 58, 19, 1, 4, 0, 0) := rfl
theorem i_32_19 : ins 32 19 = some (.iload 6, 21, 6, 0, 0, 0) := rfl
theorem i_32_21 : ins 32 21 = some (.baload, 22, 0, 0, 0, 0) := rfl
theorem i_32_22 : ins 32 22 = some (.ifCond .eq 8, 25, 30, 0, 0, 0) := rfl
theorem i_32_25 : ins 32 25 = some (.iload 4, 27, 4, 0, 0, 0) := rfl
theorem i_32_27 : ins 32 27 = some (.goto 4, 30, 31, 0, 0, 0) := rfl
theorem i_32_30 : ins 32 30 = some (.iload_n 3, 31, 3, 0, 0, 0) := rfl
theorem i_32_31 : ins 32 31 = some (.ifCond .le 7, 34, 38, 0, 0, 0) := rfl
theorem i_32_34 : ins 32 34 = some (.iconst 1, 35, 0, 0, 0, 1) := rfl
theorem i_32_35 : ins 32 35 = some (.goto 4, 38, 39, 0, 0, 0) := rfl
theorem i_32_38 : ins 32 38 = some (.iconst 0, 39, 0, 0, 0, 0) := rfl
theorem i_32_39 : ins 32 39 = some (.istore 7, 41, 7, 0, 0, 0) := rfl
theorem i_32_41 : ins 32 41 = some (.aload_n 1, 42, 1, 0, 0, 0) := rfl
theorem i_32_42 : ins 32 42 = some (.getfield 32, 45, 5, 6, 0, 0) := rfl
theorem i_32_45 : ins 32 45 = some (.iload 6, 47, 6, 0, 0, 0) := rfl
theorem i_32_47 : ins 32 47 = some (.iaload, 48, 0, 0, 0, 0) := rfl
theorem i_32_48 : ins 32 48 = some (.iconst (-1), 49, 0, 0, 0, (-1)) := rfl
theorem i_32_49 : ins 32 49 = some (.if_icmp .ne 46, 52, 95, 0, 0, 0) := rfl
theorem i_32_52 : ins 32 52 = some (.iload 7, 54, 7, 0, 0, 0) := rfl
theorem i_32_54 : ins 32 54 = some (.ifCond .eq 41, 57, 95, 0, 0, 0) := rfl
theorem i_32_57 : ins 32 57 = some (.aload_n 0, 58, 0, 0, 0, 0) := rfl
theorem i_32_58 : ins 32 58 = some (.aload_n 1, 59, 1, 0, 0, 0) := rfl
theorem i_32_59 : ins 32 59 = some (.iload 6, 61, 6, 0, 0, 0) := rfl
theorem i_32_61 : ins 32 61 = some (.iload_n 2, 62, 2, 0, 0, 0) := rfl
theorem i_32_62 : ins 32 62 = some (.invokestatic 62, 65, 33, 1, 4, 0) := rfl
theorem i_32_65 : ins 32 65 = some (.ifCond .eq 30, 68, 95, 0, 0, 0) := rfl
theorem i_32_68 : ins 32 68 = some (.iload 5, 70, 5, 0, 0, 0) := rfl
theorem i_32_70 : ins 32 70 = some (.iconst (-1), 71, 0, 0, 0, (-1)) := rfl
theorem i_32_71 : ins 32 71 = some (.if_icmp .eq 20, 74, 91, 0, 0, 0) := rfl
theorem i_32_74 : ins 32 74 = some (.aload_n 1, 75, 1, 0, 0, 0) := rfl
theorem i_32_75 : ins 32 75 = some (.getfield 19, 78, 5, 5, 0, 0) := rfl
theorem i_32_78 : ins 32 78 = some (.iload 6, 80, 6, 0, 0, 0) := rfl
theorem i_32_80 : ins 32 80 = some (.iaload, 81, 0, 0, 0, 0) := rfl
theorem i_32_81 : ins 32 81 = some (.aload_n 1, 82, 1, 0, 0, 0) := rfl
theorem i_32_82 : ins 32 82 = some (.getfield 19, 85, 5, 5, 0, 0) := rfl
theorem i_32_85 : ins 32 85 = some (.iload 5, 87, 5, 0, 0, 0) := rfl
theorem i_32_87 : ins 32 87 = some (.iaload, 88, 0, 0, 0, 0) := rfl
theorem i_32_88 : ins 32 88 = some (.if_icmp .le 7, 91, 95, 0, 0, 0) := rfl
theorem i_32_91 : ins 32 91 = some (.iload 6, 93, 6, 0, 0, 0) := rfl
theorem i_32_93 : ins 32 93 = some (.istore 5, 95, 5, 0, 0, 0) := rfl
theorem i_32_95 : ins 32 95 = some (.iinc 6 1, 98, 6, 0, 0, 1) := rfl
theorem i_32_98 : ins 32 98 = some (.goto (-92), 101, 6, 0, 0, 0) := rfl
theorem i_32_101 : ins 32 101 = some (.iload 5, 103, 5, 0, 0, 0) := rfl
theorem i_32_103 : ins 32 103 = some (.ireturn, 104, 0, 0, 0, 0) := rfl
theorem S32_0 {Q : Ou → Prop} {M : Mem} {κ : Kp} (hκ : Rd κ) {p n k : Nat} {fa fp : Int32} (hp : isPl p) (hk : k ≤ n) (hn : n ≤ 10) (hc : M 113 0 = nI n) {Pt : Nat → Bool} (hPt : ∀ k, k < n → M 114 k = bI (Pt k)) {t : Nat} (b_t : t ≤ 100000)
    (k1 : RT 32 (6, [.ref 113, .ref p, .int (nI t), .int fa, .int fp, .int (-1), .int (nI 0), UU], [], M, κ) Q)
    : RT 32 (0, [.ref 113, .ref p, .int (nI t), .int fa, .int fp, UU, UU, UU], [], M, κ) Q := by
  refine w_push i_32_0 rfl ?_
  refine w_store (l1 := [.ref 113, .ref p, .int (nI t), .int fa, .int fp, .int (-1), UU, UU]) i_32_1 rfl (Nat.le_of_ble_eq_true rfl) rfl ?_
  refine w_push i_32_3 rfl ?_
  refine w_store (l1 := [.ref 113, .ref p, .int (nI t), .int fa, .int fp, .int (-1), .int 0, UU]) i_32_4 rfl (Nat.le_of_ble_eq_true rfl) rfl ?_
  exact (k1)
theorem S32_6 {Q : Ou → Prop} {M : Mem} {κ : Kp} (hκ : Rd κ) {p n k : Nat} {fa fp : Int32} (hp : isPl p) (hk : k ≤ n) (hn : n ≤ 10) (hc : M 113 0 = nI n) {Pt : Nat → Bool} (hPt : ∀ k, k < n → M 114 k = bI (Pt k)) {t : Nat} {be : Int32} (b_t : t ≤ 100000) {r_62 : Bool}
    (o1 : k < n → (M (p + 2) k) = (-1) → (if 0 < (if (Pt k) = true then fp else fa) then true else false) = true → Run 33 (0, entL 33 [.ref 113, .ref p, .int (nI k), .int (nI t)], [], M, κ) (.inl (some (.int (bI r_62))), M, κ))
    (o2 : k < n → (M (p + 2) k) = (-1) → (if 0 < (if (Pt k) = true then fp else fa) then true else false) = true → r_62 = true → ¬ (be = (-1)) → vp_in be 10)
    (k1 : k < n → RT 32 (6, [.ref 113, .ref p, .int (nI t), .int fa, .int fp, .int (if (M (p + 2) k) = (-1) then (if (if 0 < (if (Pt k) = true then fp else fa) then true else false) = true then (if r_62 = true then (if be = (-1) then (nI k) else (if (M (p + 1) be.toNatClampNeg) < (M (p + 1) k) then (nI k) else be)) else be) else be) else be), .int (nI (k + 1)), UU], [], M, κ) Q)
    (k2 : ¬ (k < n) → Q (.inl (some (.int be)), M, κ))
    : RT 32 (6, [.ref 113, .ref p, .int (nI t), .int fa, .int fp, .int be, .int (nI k), UU], [], M, κ) Q := by
  refine w_load i_32_6 rfl rfl ?_
  refine w_load i_32_8 rfl rfl ?_
  refine w_getI (v := (nI n)) i_32_9 hκ (⟨rfl, by decide⟩ : isOb 113 1) rfl (hc) ?_
  refine w_if2n (k < n) i_32_12 (cN_ge (a := k) (b := n) (by omega) (by omega)) ?_ ?_
  · intro h1
    refine w_load i_32_15 rfl rfl ?_
    refine w_getR 114 i_32_16 hκ (⟨rfl, by decide⟩ : isOb 113 1) rfl rfl ?_
    refine w_load i_32_19 rfl rfl ?_
    refine w_zaldN (e := k) (v := (bI (Pt k))) i_32_21 hκ (⟨rfl, rfl, by decide⟩ : isZr 114 10) (by omega) (by decide) (hPt k (by omega)) ?_
    have K2 : RT 32 (31, [.ref 113, .ref p, .int (nI t), .int fa, .int fp, .int be, .int (nI k), UU], [.int (if (Pt k) = true then fp else fa)], M, κ) Q := by
      have K3 : RT 32 (39, [.ref 113, .ref p, .int (nI t), .int fa, .int fp, .int be, .int (nI k), UU], [.int (bI (if 0 < (if (Pt k) = true then fp else fa) then true else false))], M, κ) Q := by
        refine w_store (l1 := [.ref 113, .ref p, .int (nI t), .int fa, .int fp, .int be, .int (nI k), .int (bI (if 0 < (if (Pt k) = true then fp else fa) then true else false))]) i_32_39 rfl (Nat.le_of_ble_eq_true rfl) rfl ?_
        refine w_load i_32_41 rfl rfl ?_
        refine w_getR (p + 2) i_32_42 hκ (pl_ob hp) rfl rfl ?_
        refine w_load i_32_45 rfl rfl ?_
        refine w_ialdN (e := k) (v := (M (p + 2) k)) i_32_47 hκ (pl_ar hp 2 (by decide)) (by omega) (by decide) (rfl) ?_
        refine w_push i_32_48 rfl ?_
        have K4 : RT 32 (95, [.ref 113, .ref p, .int (nI t), .int fa, .int fp, .int (if (M (p + 2) k) = (-1) then (if (if 0 < (if (Pt k) = true then fp else fa) then true else false) = true then (if r_62 = true then (if be = (-1) then (nI k) else (if (M (p + 1) be.toNatClampNeg) < (M (p + 1) k) then (nI k) else be)) else be) else be) else be), .int (nI k), .int (bI (if 0 < (if (Pt k) = true then fp else fa) then true else false))], [], M, κ) Q := by
          refine w_iincN (n := k) (l1 := [.ref 113, .ref p, .int (nI t), .int fa, .int fp, .int (if (M (p + 2) k) = (-1) then (if (if 0 < (if (Pt k) = true then fp else fa) then true else false) = true then (if r_62 = true then (if be = (-1) then (nI k) else (if (M (p + 1) be.toNatClampNeg) < (M (p + 1) k) then (nI k) else be)) else be) else be) else be), .int (nI (k + 1)), .int (bI (if 0 < (if (Pt k) = true then fp else fa) then true else false))]) 1 i_32_95 rfl rfl ?_
          refine w_goto i_32_98 ?_
          exact w_weak (lle_s (lle_s (lle_s (lle_s (lle_s (lle_s (lle_s (lle_u lle_n)))))))) (k1 h1)
        refine w_if2n ((M (p + 2) k) = (-1)) i_32_49 cI_ne ?_ ?_
        · intro h5
          refine w_load i_32_52 rfl rfl ?_
          refine w_if0n ((if 0 < (if (Pt k) = true then fp else fa) then true else false) = true) i_32_54 cB_eq ?_ ?_
          · intro h6
            refine w_load i_32_57 rfl rfl ?_
            refine w_load i_32_58 rfl rfl ?_
            refine w_load i_32_59 rfl rfl ?_
            refine w_load i_32_61 rfl rfl ?_
            refine w_callS i_32_62 ⟨by decide, by decide, by decide, rfl, rfl⟩ (av := [.ref 113, .ref p, .int (nI k), .int (nI t)]) (rest := []) rfl rfl (Nat.le_of_ble_eq_true rfl) (v := some (.int (bI r_62))) (o1 h1 h5 h6) ?_
            refine w_if0n (r_62 = true) i_32_65 cB_eq ?_ ?_
            · intro h7
              refine w_load i_32_68 rfl rfl ?_
              refine w_push i_32_70 rfl ?_
              refine w_if2 (be = (-1)) i_32_71 cI_eq ?_ ?_
              · intro h8
                refine w_load i_32_91 rfl rfl ?_
                refine w_store (l1 := [.ref 113, .ref p, .int (nI t), .int fa, .int fp, .int (nI k), .int (nI k), .int (bI (if 0 < (if (Pt k) = true then fp else fa) then true else false))]) i_32_93 rfl (Nat.le_of_ble_eq_true rfl) rfl ?_
                exact (by first | exact (K4) | (have K9 := K4; simp only [↓if_pos h5, ↓if_pos h6, ↓if_pos h7, ↓if_pos h8] at K9 ⊢; exact (K9)))
              · intro h9
                refine w_load i_32_74 rfl rfl ?_
                refine w_getR (p + 1) i_32_75 hκ (pl_ob hp) rfl rfl ?_
                refine w_load i_32_78 rfl rfl ?_
                refine w_ialdN (e := k) (v := (M (p + 1) k)) i_32_80 hκ (pl_ar hp 1 (by decide)) (by omega) (by decide) (rfl) ?_
                refine w_load i_32_81 rfl rfl ?_
                refine w_getR (p + 1) i_32_82 hκ (pl_ob hp) rfl rfl ?_
                refine w_load i_32_85 rfl rfl ?_
                refine w_iald (v := (M (p + 1) be.toNatClampNeg)) i_32_87 hκ (pl_ar hp 1 (by decide)) (o2 h1 h5 h6 h7 h9) (rfl) ?_
                refine w_if2n ((M (p + 1) be.toNatClampNeg) < (M (p + 1) k)) i_32_88 cI_le ?_ ?_
                · intro h10
                  refine w_load i_32_91 rfl rfl ?_
                  refine w_store (l1 := [.ref 113, .ref p, .int (nI t), .int fa, .int fp, .int (nI k), .int (nI k), .int (bI (if 0 < (if (Pt k) = true then fp else fa) then true else false))]) i_32_93 rfl (Nat.le_of_ble_eq_true rfl) rfl ?_
                  exact (by first | exact (K4) | (have K9 := K4; simp only [↓if_pos h5, ↓if_pos h6, ↓if_pos h7, ↓if_neg h9, ↓if_pos h10] at K9 ⊢; exact (K9)))
                · intro h11
                  exact (by first | exact (K4) | (have K9 := K4; simp only [↓if_pos h5, ↓if_pos h6, ↓if_pos h7, ↓if_neg h9, ↓if_neg h11] at K9 ⊢; exact (K9)))
            · intro h12
              exact (by first | exact (K4) | (have K9 := K4; simp only [↓if_pos h5, ↓if_pos h6, ↓if_neg h12] at K9 ⊢; exact (K9)))
          · intro h13
            exact (by first | exact (K4) | (have K9 := K4; simp only [↓if_pos h5, ↓if_neg h13] at K9 ⊢; exact (K9)))
        · intro h14
          exact (by first | exact (K4) | (have K9 := K4; simp only [↓if_neg h14] at K9 ⊢; exact (K9)))
      refine w_if0n (0 < (if (Pt k) = true then fp else fa)) i_32_31 cI0_le ?_ ?_
      · intro h15
        refine w_push i_32_34 rfl ?_
        refine w_goto i_32_35 ?_
        exact (by first | exact (K3) | (have K9 := K3; simp only [↓if_pos h15] at K9 ⊢; exact (K9)))
      · intro h16
        refine w_push i_32_38 rfl ?_
        exact (by first | exact (K3) | (have K9 := K3; simp only [↓if_neg h16] at K9 ⊢; exact (K9)))
    refine w_if0n ((Pt k) = true) i_32_22 cB_eq ?_ ?_
    · intro h17
      refine w_load i_32_25 rfl rfl ?_
      refine w_goto i_32_27 ?_
      exact (by first | exact (K2) | (have K9 := K2; simp only [↓if_pos h17] at K9 ⊢; exact (K9)))
    · intro h18
      refine w_load i_32_30 rfl rfl ?_
      exact (by first | exact (K2) | (have K9 := K2; simp only [↓if_neg h18] at K9 ⊢; exact (K9)))
  · intro h19
    refine w_load i_32_101 rfl rfl ?_
    exact w_iret i_32_103 (.inl rfl) (k2 h19)
theorem i_31_0 : ins 31 0 = some (.aload_n 0, 1, 0, 0, 0, 0) := rfl
theorem i_31_1 : ins 31 1 = some (.getfield 48, 4, 1, 2, 0, 0) := rfl
theorem i_31_4 : ins 31 4 = some (.istore_n 3, 5, 3, 0, 0, 0) := rfl
theorem i_31_5 : ins 31 5 = some (.aload_n 0, 6, 0, 0, 0, 0) := rfl
theorem i_31_6 : ins 31 6 = some (.getfield 51, 9, 1, 3, 0, 0) := rfl
theorem i_31_9 : ins 31 9 = some (.istore 4, 11, 4, 0, 0, 0) := rfl
theorem i_31_11 : ins 31 11 = some (.iconst 0, 12, 0, 0, 0, 0) := rfl
theorem i_31_12 : ins 31 12 = some (.istore 5, 14, 5, 0, 0, 0) := rfl
theorem i_31_14 : ins 31 14 = some (.iload 5, 16, 5, 0, 0, 0) := rfl
theorem i_31_16 : ins 31 16 = some (.aload_n 0, 17, 0, 0, 0, 0) := rfl
theorem i_31_17 : ins 31 17 = some (.getfield 15, 20, 1, 0, 0, 0) := rfl
theorem i_31_20 : ins 31 20 = some (.if_icmp .ge 75, 23, 95, 0, 0, 0) := rfl
theorem i_31_23 : ins 31 23 = some (.aload_n 0, 24, 0, 0, 0, 0) := rfl
theorem i_31_24 : ins 31 24 = some (.aload_n 1, 25, 1, 0, 0, 0) := rfl
theorem i_31_25 : ins 31 25 = some (.iload_n 2, 26, 2, 0, 0, 0) := rfl
theorem i_31_26 : ins 31 26 = some (.iload_n 3, 27, 3, 0, 0, 0) := rfl
theorem i_31_27 : ins 31 27 = some (.iload 4, 29, 4, 0, 0, 0) := rfl
theorem i_31_29 : ins 31 29 = some (.invokestatic 54, 32, 32, 1, 5, 0) := rfl
theorem i_31_32 : ins 31 32 = some (.istore 6, 34, 6, 0, 0, 0) := rfl
theorem i_31_34 : ins 31 34 = some (.iload 6, 36, 6, 0, 0, 0) := rfl
theorem i_31_36 : ins 31 36 = some (.iconst (-1), 37, 0, 0, 0, (-1)) := rfl
theorem i_31_37 : ins 31 37 = some (.if_icmp .ne 6, 40, 43, 0, 0, 0) := rfl
theorem i_31_40 : ins 31 40 = some (.iload 5, 42, 5, 0, 0, 0) := rfl
theorem i_31_42 : ins 31 42 = some (.ireturn, 43, 0, 0, 0, 0) := rfl
theorem i_31_43 : ins 31 43 = some (.aload_n 1, 44, 1, 0, 0, 0) := rfl
theorem i_31_44 : ins 31 44 = some (.getfield 32, 47, 5, 6, 0, 0) := rfl
theorem i_31_47 : ins 31 47 = some (.iload 6, 49, 6, 0, 0, 0) := rfl
theorem i_31_49 : ins 31 49 = some (.iload_n 2, 50, 2, 0, 0, 0) := rfl
theorem i_31_50 : ins 31 50 = some (.iastore, 51, 0, 0, 0, 0) := rfl
theorem i_31_51 : ins 31 51 = some (.iload_n 3, 52, 3, 0, 0, 0) := rfl
theorem i_31_52 : ins 31 52 = some (.aload_n 0, 53, 0, 0, 0, 0) := rfl
theorem i_31_53 : ins 31 53 = some (.getfield 58, 56, 1, 4, 0, 0) := rfl
theorem i_31_56 : ins 31 56 = some (.iload 6, 58, 6, 0, 0, 0) := rfl
theorem i_31_58 : ins 31 58 = some (.baload, 59, 0, 0, 0, 0) := rfl
theorem i_31_59 : ins 31 59 = some (.ifCond .eq 7, 62, 66, 0, 0, 0) := rfl
theorem i_31_62 : ins 31 62 = some (.iconst 0, 63, 0, 0, 0, 0) := rfl
theorem i_31_63 : ins 31 63 = some (.goto 4, 66, 67, 0, 0, 0) := rfl
theorem i_31_66 : ins 31 66 = some (.iconst 1, 67, 0, 0, 0, 1) := rfl
theorem i_31_67 : ins 31 67 = some (.isub, 68, 0, 0, 0, 0) := rfl
theorem i_31_68 : ins 31 68 = some (.istore_n 3, 69, 3, 0, 0, 0) := rfl
theorem i_31_69 : ins 31 69 = some (.iload 4, 71, 4, 0, 0, 0) := rfl
theorem i_31_71 : ins 31 71 = some (.aload_n 0, 72, 0, 0, 0, 0) := rfl
theorem i_31_72 : ins 31 72 = some (.getfield 58, 75, 1, 4, 0, 0) := rfl
theorem i_31_75 : ins 31 75 = some (.iload 6, 77, 6, 0, 0, 0) := rfl
theorem i_31_77 : ins 31 77 = some (.baload, 78, 0, 0, 0, 0) := rfl
theorem i_31_78 : ins 31 78 = some (.ifCond .eq 7, 81, 85, 0, 0, 0) := rfl
theorem i_31_81 : ins 31 81 = some (.iconst 1, 82, 0, 0, 0, 1) := rfl
theorem i_31_82 : ins 31 82 = some (.goto 4, 85, 86, 0, 0, 0) := rfl
theorem i_31_85 : ins 31 85 = some (.iconst 0, 86, 0, 0, 0, 0) := rfl
theorem i_31_86 : ins 31 86 = some (.isub, 87, 0, 0, 0, 0) := rfl
theorem i_31_87 : ins 31 87 = some (.istore 4, 89, 4, 0, 0, 0) := rfl
theorem i_31_89 : ins 31 89 = some (.iinc 5 1, 92, 5, 0, 0, 1) := rfl
theorem i_31_92 : ins 31 92 = some (.goto (-78), 95, 14, 0, 0, 0) := rfl
theorem i_31_95 : ins 31 95 = some (.aload_n 0, 96, 0, 0, 0, 0) := rfl
theorem i_31_96 : ins 31 96 = some (.getfield 15, 99, 1, 0, 0, 0) := rfl
theorem i_31_99 : ins 31 99 = some (.ireturn, 100, 0, 0, 0, 0) := rfl
theorem S31_0 {Q : Ou → Prop} {M : Mem} {κ : Kp} (hκ : Rd κ) {p n k : Nat} {fa fp : Int32} (hp : isPl p) (hk : k ≤ n) (hn : n ≤ 10) (hc : M 113 0 = nI n) {Pt : Nat → Bool} (hPt : ∀ k, k < n → M 114 k = bI (Pt k)) {t : Nat} (b_t : t ≤ 100000)
    (k1 : RT 31 (14, [.ref 113, .ref p, .int (nI t), .int (M 113 2), .int (M 113 3), .int (nI 0), UU], [], M, κ) Q)
    : RT 31 (0, [.ref 113, .ref p, .int (nI t), UU, UU, UU, UU], [], M, κ) Q := by
  refine w_load i_31_0 rfl rfl ?_
  refine w_getI (v := (M 113 2)) i_31_1 hκ (⟨rfl, by decide⟩ : isOb 113 1) rfl (rfl) ?_
  refine w_store (l1 := [.ref 113, .ref p, .int (nI t), .int (M 113 2), UU, UU, UU]) i_31_4 rfl (Nat.le_of_ble_eq_true rfl) rfl ?_
  refine w_load i_31_5 rfl rfl ?_
  refine w_getI (v := (M 113 3)) i_31_6 hκ (⟨rfl, by decide⟩ : isOb 113 1) rfl (rfl) ?_
  refine w_store (l1 := [.ref 113, .ref p, .int (nI t), .int (M 113 2), .int (M 113 3), UU, UU]) i_31_9 rfl (Nat.le_of_ble_eq_true rfl) rfl ?_
  refine w_push i_31_11 rfl ?_
  refine w_store (l1 := [.ref 113, .ref p, .int (nI t), .int (M 113 2), .int (M 113 3), .int 0, UU]) i_31_12 rfl (Nat.le_of_ble_eq_true rfl) rfl ?_
  exact (k1)
theorem S31_14 {Q : Ou → Prop} {M : Mem} {κ : Kp} (hκ : Rd κ) {p n k : Nat} {fa fp : Int32} (hp : isPl p) (hk : k ≤ n) (hn : n ≤ 10) (hc : M 113 0 = nI n) {Pt : Nat → Bool} (hPt : ∀ k, k < n → M 114 k = bI (Pt k)) {t : Nat} (b_t : t ≤ 100000) {r_29 : Int32}
    (o1 : k < n → Run 32 (0, entL 32 [.ref 113, .ref p, .int (nI t), .int fa, .int fp], [], M, κ) (.inl (some (.int r_29)), M, κ))
    (o2 : k < n → ¬ (r_29 = (-1)) → vp_in r_29 10)
    (k1 : k < n → r_29 = (-1) → Q (.inl (some (.int (nI k))), M, κ))
    (k2 : k < n → ¬ (r_29 = (-1)) → RT 31 (14, [.ref 113, .ref p, .int (nI t), .int (fa - (bI (if (M 114 r_29.toNatClampNeg) = 0 then true else false))), .int (fp - (bI (if (M 114 r_29.toNatClampNeg) = 0 then false else true))), .int (nI (k + 1)), UU], [], (stM M (p + 2) r_29.toNatClampNeg (nI t)), κ) Q)
    (k3 : ¬ (k < n) → Q (.inl (some (.int (nI n))), M, κ))
    : RT 31 (14, [.ref 113, .ref p, .int (nI t), .int fa, .int fp, .int (nI k), UU], [], M, κ) Q := by
  refine w_load i_31_14 rfl rfl ?_
  refine w_load i_31_16 rfl rfl ?_
  refine w_getI (v := (nI n)) i_31_17 hκ (⟨rfl, by decide⟩ : isOb 113 1) rfl (hc) ?_
  refine w_if2n (k < n) i_31_20 (cN_ge (a := k) (b := n) (by omega) (by omega)) ?_ ?_
  · intro h1
    refine w_load i_31_23 rfl rfl ?_
    refine w_load i_31_24 rfl rfl ?_
    refine w_load i_31_25 rfl rfl ?_
    refine w_load i_31_26 rfl rfl ?_
    refine w_load i_31_27 rfl rfl ?_
    refine w_callS i_31_29 ⟨by decide, by decide, by decide, rfl, rfl⟩ (av := [.ref 113, .ref p, .int (nI t), .int fa, .int fp]) (rest := []) rfl rfl (Nat.le_of_ble_eq_true rfl) (v := some (.int r_29)) (o1 h1) ?_
    refine w_store (l1 := [.ref 113, .ref p, .int (nI t), .int fa, .int fp, .int (nI k), .int r_29]) i_31_32 rfl (Nat.le_of_ble_eq_true rfl) rfl ?_
    refine w_load i_31_34 rfl rfl ?_
    refine w_push i_31_36 rfl ?_
    refine w_if2n (r_29 = (-1)) i_31_37 cI_ne ?_ ?_
    · intro h2
      refine w_load i_31_40 rfl rfl ?_
      exact w_iret i_31_42 (.inl rfl) (k1 h1 h2)
    · intro h3
      refine w_load i_31_43 rfl rfl ?_
      refine w_getR (p + 2) i_31_44 hκ (pl_ob hp) rfl rfl ?_
      refine w_load i_31_47 rfl rfl ?_
      refine w_load i_31_49 rfl rfl ?_
      refine w_iast i_31_50 hκ (pl_ar hp 2 (by decide)) (o2 h1 h3) ?_
      refine w_load i_31_51 rfl rfl ?_
      refine w_load i_31_52 rfl rfl ?_
      refine w_getR 114 i_31_53 hκ (⟨rfl, by decide⟩ : isOb 113 1) rfl rfl ?_
      refine w_load i_31_56 rfl rfl ?_
      refine w_zald (v := (M 114 r_29.toNatClampNeg)) i_31_58 hκ (⟨rfl, rfl, by decide⟩ : isZr 114 10) (o2 h1 h3) ((stM_o (by have := pl_rng hp; omega)).trans (rfl)) ?_
      have K4 : RT 31 (67, [.ref 113, .ref p, .int (nI t), .int fa, .int fp, .int (nI k), .int r_29], [.int (bI (if (M 114 r_29.toNatClampNeg) = 0 then true else false)), .int fa], (stM M (p + 2) r_29.toNatClampNeg (nI t)), κ) Q := by
        refine w_bin (w := (fa - (bI (if (M 114 r_29.toNatClampNeg) = 0 then true else false)))) i_31_67 rfl rfl ?_
        refine w_store (l1 := [.ref 113, .ref p, .int (nI t), .int (fa - (bI (if (M 114 r_29.toNatClampNeg) = 0 then true else false))), .int fp, .int (nI k), .int r_29]) i_31_68 rfl (Nat.le_of_ble_eq_true rfl) rfl ?_
        refine w_load i_31_69 rfl rfl ?_
        refine w_load i_31_71 rfl rfl ?_
        refine w_getR 114 i_31_72 hκ (⟨rfl, by decide⟩ : isOb 113 1) rfl rfl ?_
        refine w_load i_31_75 rfl rfl ?_
        refine w_zald (v := (M 114 r_29.toNatClampNeg)) i_31_77 hκ (⟨rfl, rfl, by decide⟩ : isZr 114 10) (o2 h1 h3) ((stM_o (by have := pl_rng hp; omega)).trans (rfl)) ?_
        have K5 : RT 31 (86, [.ref 113, .ref p, .int (nI t), .int (fa - (bI (if (M 114 r_29.toNatClampNeg) = 0 then true else false))), .int fp, .int (nI k), .int r_29], [.int (bI (if (M 114 r_29.toNatClampNeg) = 0 then false else true)), .int fp], (stM M (p + 2) r_29.toNatClampNeg (nI t)), κ) Q := by
          refine w_bin (w := (fp - (bI (if (M 114 r_29.toNatClampNeg) = 0 then false else true)))) i_31_86 rfl rfl ?_
          refine w_store (l1 := [.ref 113, .ref p, .int (nI t), .int (fa - (bI (if (M 114 r_29.toNatClampNeg) = 0 then true else false))), .int (fp - (bI (if (M 114 r_29.toNatClampNeg) = 0 then false else true))), .int (nI k), .int r_29]) i_31_87 rfl (Nat.le_of_ble_eq_true rfl) rfl ?_
          refine w_iincN (n := k) (l1 := [.ref 113, .ref p, .int (nI t), .int (fa - (bI (if (M 114 r_29.toNatClampNeg) = 0 then true else false))), .int (fp - (bI (if (M 114 r_29.toNatClampNeg) = 0 then false else true))), .int (nI (k + 1)), .int r_29]) 1 i_31_89 rfl rfl ?_
          refine w_goto i_31_92 ?_
          exact w_weak (lle_s (lle_s (lle_s (lle_s (lle_s (lle_s (lle_u lle_n))))))) (k2 h1 h3)
        refine w_if0 ((M 114 r_29.toNatClampNeg) = 0) i_31_78 cI0_eq ?_ ?_
        · intro h6
          refine w_push i_31_85 rfl ?_
          exact (by first | exact (K5) | (have K9 := K5; simp only [↓if_pos h6] at K9 ⊢; exact (K9)))
        · intro h7
          refine w_push i_31_81 rfl ?_
          refine w_goto i_31_82 ?_
          exact (by first | exact (K5) | (have K9 := K5; simp only [↓if_neg h7] at K9 ⊢; exact (K9)))
      refine w_if0 ((M 114 r_29.toNatClampNeg) = 0) i_31_59 cI0_eq ?_ ?_
      · intro h8
        refine w_push i_31_66 rfl ?_
        exact (by first | exact (K4) | (have K9 := K4; simp only [↓if_pos h8] at K9 ⊢; exact (K9)))
      · intro h9
        refine w_push i_31_62 rfl ?_
        refine w_goto i_31_63 ?_
        exact (by first | exact (K4) | (have K9 := K4; simp only [↓if_neg h9] at K9 ⊢; exact (K9)))
  · intro h10
    refine w_load i_31_95 rfl rfl ?_
    refine w_getI (v := (nI n)) i_31_96 hκ (⟨rfl, by decide⟩ : isOb 113 1) rfl (hc) ?_
    exact w_iret i_31_99 (.inl rfl) (k3 h10)
def gb (W : Nat → Nat → Option Int32) (V : Nat → Int32) (k : Nat) (m : Int32) (n : Nat) : Int32 := fo (fun j acc => ow (W k j) acc (fun w => mx acc (w + V j))) m n
/-- the weights in the class -/
def CW (M : Mem) (n : Nat) (W : Nat → Nat → Option Int32) : Prop := ∀ i j, i < n → j < n → M 118 (i * 10 + j) = enc (-1000000) (W i j)
def Wrg (n : Nat) (W : Nat → Nat → Option Int32) : Prop := ∀ i j, i < n → j < n → ∀ w, W i j = some w → -64008 ≤ w.toInt ∧ w.toInt ≤ 8
theorem Wrg_C {n : Nat} {W : Nat → Nat → Option Int32} (h : Wrg n W) {i j : Nat} (hi : i < n) (hj : j < n) : oab (-1000000) (W i j) := oab_of (h i j hi hj) (by decide)
theorem Wrg_M {n : Nat} {W : Nat → Nat → Option Int32} (h : Wrg n W) {i j : Nat} (hi : i < n) (hj : j < n) : oab (-100000) (W i j) := oab_of (h i j hi hj) (by decide)
theorem c27 (hκ : Rd κ) {n k v : Nat} {W : Nat → Nat → Option Int32} {m : Int32} (hv : isAr v 10) (hk : k < n) (hn : n ≤ 10) (hc : M 113 0 = nI n) (hW : CW M n W) (hr : Wrg n W) : Run 27 (0, entL 27 [.ref 113, .int (nI k), .ref v, .int m], [], M, κ) (.inl (some (.int (gb W (M v) k m n))), M, κ) := by
  refine RT_run (S27_0 (j := 0) hκ hv hk (by omega) hn hc ?_)
  refine loopF (n := n) (fun j m => RT 27 (6, [.ref 113, .int (nI k), .ref v, UU, .int m, .int (nI j)], [], M, κ) _) (fun j acc => ow (W k j) acc (fun w => mx acc (w + M v j))) m (fun j m hj K => ?_) ?_
  · refine S27_6 hκ hv hk (by omega) hn hc (fun _ => ?_) (fun z => absurd hj z)
    rw [hW k j hk hj, enc_ow (Wrg_C hr hk hj) (fun w => mx m (w + M v j))]
    exact K
  · exact S27_6 hκ hv hk (Nat.le_refl _) hn hc (fun z => absurd z (Nat.lt_irrefl _)) (fun _ => rfl)
def endF (c L : Nat → Int32) (n : Nat) : Int32 := fo (fun k m => mx m (c k + L k)) 0 n
theorem c29 (hκ : Rd κ) {n v : Nat} {L : Nat → Int32} (hv : isAr v 10) (hn : n ≤ 10) (hc : M 113 0 = nI n) (hL : ∀ k, k < n → M 115 k = L k) : Run 29 (0, entL 29 [.ref 113, .ref v], [], M, κ) (.inl (some (.int (endF (M v) L n))), M, κ) := by
  refine RT_run (S29_0 (k := 0) hκ hv (by omega) hn hc ?_)
  refine loopF (n := n) (fun k m => RT 29 (4, [.ref 113, .ref v, .int m, .int (nI k)], [], M, κ) _) (fun k m => mx m (M v k + L k)) 0 (fun j m hj K => ?_) ?_
  · refine S29_4 hκ hv (by omega) hn hc (fun _ => ?_) (fun z => absurd hj z)
    rw [hL j hj]
    exact K
  · exact S29_4 hκ hv (Nat.le_refl _) hn hc (fun z => absurd z (Nat.lt_irrefl _)) (fun _ => rfl)
theorem c33 (hκ : Rd κ) {p n k t : Nat} {W : Nat → Nat → Option Int32} {c : Nat → Int32} (hp : isPl p) (hk : k < n) (hn : n ≤ 10) (ht : t ≤ 1000) (hc : M 113 0 = nI n) (hW : CW M n W) (hr : Wrg n W) (hcy : ∀ i, i < n → M (p + 2) i = c i) : Run 33 (0, entL 33 [.ref 113, .ref p, .int (nI k), .int (nI t)], [], M, κ) (.inl (some (.int (bI (rdy W c k (nI t) k)))), M, κ) := by
  refine RT_run (S33_0 (i := 0) hκ hp hk (by omega) hn hc (by omega) ?_)
  refine loopI (n := k) (fun i (_ : Unit) => RT 33 (3, [.ref 113, .ref p, .int (nI k), .int (nI t), .int (nI i), UU], [], M, κ) _) (fun i _ => rdy W c k (nI t) i = true) (fun i u hi hI ih => ?_) (fun u hI => ?_) 0 () (Nat.zero_le _) rfl
  · have hin : i < n := by omega
    have e := hW i k hin hk
    refine S33_3 hκ hp hk (by omega) hn hc (by omega) (fun _ h => ih () ?_) (fun _ h1 h2 => ?_) (fun _ h1 h2 h3 => ih () ?_) (fun z => absurd hi z)
    · rw [rdy, hI, edk, (enc_is (Wrg_C hr hin hk)).mp (e.symm.trans h)]
      rfl
    · have : rdy W c k (nI t) (i + 1) = false := by
        rw [rdy, edk]
        cases q : W i k with
        | none => exact absurd (e.trans (by rw [q]; rfl)) h1
        | some w =>
          rw [hI, Bool.true_and]
          rw [e, q, hcy i hin] at h2
          refine decide_eq_false (fun z => ?_)
          rcases h2 with h2 | h2
          · exact z.1 h2
          · exact z.2 h2.2
      rw [rdy_false this k hi]
      rfl
    · rw [rdy, hI, edk]
      cases q : W i k with
      | none => rfl
      | some w =>
        rw [e, q, hcy i hin] at h3
        rw [hcy i hin] at h2
        exact decide_eq_true ⟨h2, h3⟩
  · refine S33_3 hκ hp hk (Nat.le_refl _) hn hc (by omega) (fun z => absurd z (Nat.lt_irrefl _)) (fun z => absurd z (Nat.lt_irrefl _)) (fun z => absurd z (Nat.lt_irrefl _)) (fun _ => ?_)
    rw [hI]
    rfl
theorem ffree {al us : Nat} (h : us ≤ al) (ha : al ≤ 10) : (0 : Int32) < nI (al - us) ↔ us < al := by
  rw [ltI, nI_toInt (by omega), c0]
  omega
theorem c32 (hκ : Rd κ) {p n t : Nat} {W : Nat → Nat → Option Int32} {c : Nat → Int32} {Pt : Nat → Bool} {U : Bool → Nat} (hp : isPl p) (hn : n ≤ 10) (ht : t ≤ 1000) (hc : M 113 0 = nI n) (hPt : ∀ k, k < n → M 114 k = bI (Pt k)) (hW : CW M n W) (hr : Wrg n W) (hcy : ∀ i, i < n → M (p + 2) i = c i) (hU : ∀ b, use Pt c b (nI t) n ≤ U b ∧ U b ≤ 10) : Run 32 (0, entL 32 [.ref 113, .ref p, .int (nI t), .int (nI (U false - use Pt c false (nI t) n)), .int (nI (U true - use Pt c true (nI t) n))], [], M, κ) (.inl (some (.int (eo (pk n W (M (p + 1)) Pt U c (nI t) n)))), M, κ) := by
  refine RT_run (S32_0 (k := 0) hκ hp (by omega) hn hc hPt (by omega) ?_)
  refine loopI (n := n) (fun k be => RT 32 (6, [.ref 113, .ref p, .int (nI t), .int (nI (U false - use Pt c false (nI t) n)), .int (nI (U true - use Pt c true (nI t) n)), .int be, .int (nI k), UU], [], M, κ) _) (fun k be => be = eo (pk n W (M (p + 1)) Pt U c (nI t) k)) (fun k be hk hI ih => ?_) (fun be hI => ?_) 0 _ (Nat.zero_le _) rfl
  · have hfree : (0 < (if Pt k = true then nI (U true - use Pt c true (nI t) n) else nI (U false - use Pt c false (nI t) n))) ↔ use Pt c (Pt k) (nI t) n < U (Pt k) := by
      cases Pt k with
      | true => exact ffree (hU true).1 (hU true).2
      | false => exact ffree (hU false).1 (hU false).2
    refine S32_6 (r_62 := rdy W c k (nI t) k) hκ hp (by omega) hn hc hPt (by omega) (fun _ _ _ => c33 hκ hp hk hn ht hc hW hr hcy) (fun _ _ _ _ hb => ?_) (fun _ => ih _ ?_) (fun z => absurd hk z)
    · rw [hI] at hb ⊢
      cases q : pk n W (M (p + 1)) Pt U c (nI t) k with
      | none => rw [q] at hb; exact absurd rfl hb
      | some b => exact vp_in_nI (by have := (pkk_lt k b q).1; omega) (by decide)
    · rw [hI, pk, hcy k hk]
      unfold eli
      by_cases h1 : c k = -1
      · rw [if_pos h1, decide_eq_true h1, Bool.true_and]
        by_cases h2 : use Pt c (Pt k) (nI t) n < U (Pt k)
        · rw [if_pos (hfree.mpr h2), if_pos rfl, decide_eq_true h2, Bool.true_and]
          by_cases h3 : rdy W c k (nI t) k = true
          · rw [if_pos h3, if_pos h3]
            cases q : pk n W (M (p + 1)) Pt U c (nI t) k with
            | none => exact if_pos rfl
            | some b =>
              have hb := (pkk_lt k b q).1
              show (if nI b = -1 then _ else _) = _
              rw [if_neg (nI_m1 (by omega))]
              show (if M (p + 1) (nI b).toNatClampNeg < M (p + 1) k then nI k else nI b) = _
              rw [nI_clamp (by omega)]
              dsimp only
              split <;> rfl
          · rw [if_neg h3, if_neg h3]
        · rw [if_neg (fun z => h2 (hfree.mp z)), if_neg (by decide), decide_eq_false h2, Bool.false_and, if_neg (by decide)]
      · rw [if_neg h1, decide_eq_false h1, Bool.false_and, Bool.false_and, if_neg (by decide)]
  · refine S32_6 (r_62 := false) hκ hp (Nat.le_refl _) hn hc hPt (by omega) (fun z => absurd z (Nat.lt_irrefl _)) (fun z => absurd z (Nat.lt_irrefl _)) (fun z => absurd z (Nat.lt_irrefl _)) (fun _ => ?_)
    rw [hI]
end P_29_list
