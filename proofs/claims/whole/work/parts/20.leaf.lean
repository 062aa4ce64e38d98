/-! LEAF METHODS: what they answer -/
section P_20_leaf
theorem tgd {x : Int32} {pc t : Nat} {d lo hi : Int} {offs : Array Int} (h : x.toInt < lo ∨ hi < x.toInt) (h2 : decide ((pc : Int) + d = (t : Int)) = true) : tgtOk pc (.tableswitch d lo hi offs) x t = true := by
  show (if x.toInt < lo ∨ hi < x.toInt then decide ((pc : Int) + d = (t : Int)) else _) = true
  rw [if_pos h]
  exact h2
def inR (l x m : Int32) : Bool := if x < l then false else if m < x then false else true
def outR (v l h : Int32) : Bool := if v < l then true else if h < v then true else false
def isP (c : Int32) : Bool := if c < 7 then false else true
def isW (c : Int32) : Bool := if 7 < c then false else true
def goes (c : Int32) : Bool := if c = 0 then false else true
def forks (c : Int32) : Bool := if c = 2 then true else false
def sbt (c : Int32) : Bool := if c = 6 then true else if c = 9 then true else if c = 8 then true else false
def ordF (c d : Int32) : Bool := decide ((c = 9 ∧ d = 9) ∨ (c = 6 ∧ (d = 6 ∨ d = 9 ∨ d = 8)) ∨ (d = 6 ∧ (c = 6 ∨ c = 9 ∨ c = 8)))
def latF (pl mu di lo c : Int32) : Int32 := if c = 4 then mu else if c = 5 then pl else if c = 6 then di else if c = 7 then lo else if c = 8 then 1 else if c = 9 then 1 else pl
def wrF (c d : Int32) : Int32 := if c < 8 then d else -1
def rdF (c a b g v : Int32) : Bool := decide (¬ v = -1 ∧ ((¬ c = 0 ∧ a = v) ∨ (((¬ c < 2 ∧ ¬ 6 < c) ∨ c = 8) ∧ b = v) ∨ ab g - 1 = v))
def rdM (c a b g v : Int32) : Bool := decide ((¬ c = 0 ∧ a = v) ∨ ((c = 2 ∨ c = 3 ∨ c = 4 ∨ c = 5 ∨ c = 6 ∨ c = 8) ∧ b = v) ∨ g = 1 + v ∨ g = -1 - v)
def wsM (c d v : Int32) : Bool := decide (¬ 7 < c ∧ d = v)
def memF (c : Int32) : Bool := decide (c = 7 ∨ c = 8)
def stpF (c d a g : Int32) : Bool := decide (c = 1 ∧ d = a ∧ g = 0)
def comF (e t f y : Int32) : Bool := decide ((¬ e = 0 ∧ t = y) ∨ (e = 2 ∧ f = y))
def dvF (c r : Int32) : Int32 := if 0 < r then c / r else 0
def rmF (c r : Int32) : Int32 := if 0 < r then rm c r else 0
variable {Q : Ou → Prop} {M : Mem} {κ : Kp}
theorem lt0_ne {r : Int32} (h : 0 < r) : ¬ r = 0 := fun e => by rw [e] at h; exact absurd h (by decide)
theorem i_81_0 : ins 81 0 = some (.iload_n 1, 1, 1, 0, 0, 0) := rfl
theorem i_81_1 : ins 81 1 = some (.iload_n 0, 2, 0, 0, 0, 0) := rfl
theorem i_81_2 : ins 81 2 = some (.if_icmp .lt 12, 5, 14, 0, 0, 0) := rfl
theorem i_81_5 : ins 81 5 = some (.iload_n 1, 6, 1, 0, 0, 0) := rfl
theorem i_81_6 : ins 81 6 = some (.iload_n 2, 7, 2, 0, 0, 0) := rfl
theorem i_81_7 : ins 81 7 = some (.if_icmp .gt 7, 10, 14, 0, 0, 0) := rfl
theorem i_81_10 : ins 81 10 = some (.iconst 1, 11, 0, 0, 0, 1) := rfl
theorem i_81_11 : ins 81 11 = some (.goto 4, 14, 15, 0, 0, 0) := rfl
theorem i_81_14 : ins 81 14 = some (.iconst 0, 15, 0, 0, 0, 0) := rfl
theorem i_81_15 : ins 81 15 = some (.ireturn, 16, 0, 0, 0, 0) := rfl
theorem S81_0 {Q : Ou → Prop} {M : Mem} {κ : Kp} (hκ : Rd κ)  {l : Int32} {x : Int32} {m : Int32}
    (k1 : Q (.inl (some (.int (bI (if x < l then false else (if m < x then false else true))))), M, κ))
    : RT 81 (0, [.int l, .int x, .int m], [], M, κ) Q := by
  refine w_load i_81_0 rfl rfl ?_
  refine w_load i_81_1 rfl rfl ?_
  have K1 : RT 81 (15, [.int l, .int x, .int m], [.int (bI (if x < l then false else (if m < x then false else true)))], M, κ) Q := by
    exact w_iret i_81_15 (.inr ⟨rfl, isB_bI _⟩) (k1)
  refine w_if2 (x < l) i_81_2 cI_lt ?_ ?_
  · intro h2
    refine w_push i_81_14 rfl ?_
    exact (by first | exact (K1) | (have K9 := K1; simp only [↓if_pos h2] at K9 ⊢; exact (K9)))
  · intro h3
    refine w_load i_81_5 rfl rfl ?_
    refine w_load i_81_6 rfl rfl ?_
    refine w_if2 (m < x) i_81_7 cI_gt ?_ ?_
    · intro h4
      refine w_push i_81_14 rfl ?_
      exact (by first | exact (K1) | (have K9 := K1; simp only [↓if_neg h3, ↓if_pos h4] at K9 ⊢; exact (K9)))
    · intro h5
      refine w_push i_81_10 rfl ?_
      refine w_goto i_81_11 ?_
      exact (by first | exact (K1) | (have K9 := K1; simp only [↓if_neg h3, ↓if_neg h5] at K9 ⊢; exact (K9)))
theorem c81 (hκ : Rd κ) {l : Int32} {x : Int32} {m : Int32} : Run 81 (0, entL 81 [.int l, .int x, .int m], [], M, κ) (.inl (some (.int (bI (inR l x m)))), M, κ) := RT_run (S81_0 hκ rfl)
theorem i_83_0 : ins 83 0 = some (.iload_n 0, 1, 0, 0, 0, 0) := rfl
theorem i_83_1 : ins 83 1 = some (.bipush 7, 3, 0, 0, 0, 7) := rfl
theorem i_83_3 : ins 83 3 = some (.if_icmp .lt 7, 6, 10, 0, 0, 0) := rfl
theorem i_83_6 : ins 83 6 = some (.iconst 1, 7, 0, 0, 0, 1) := rfl
theorem i_83_7 : ins 83 7 = some (.goto 4, 10, 11, 0, 0, 0) := rfl
theorem i_83_10 : ins 83 10 = some (.iconst 0, 11, 0, 0, 0, 0) := rfl
theorem i_83_11 : ins 83 11 = some (.ireturn, 12, 0, 0, 0, 0) := rfl
theorem S83_0 {Q : Ou → Prop} {M : Mem} {κ : Kp} (hκ : Rd κ)  {c : Int32}
    (k1 : Q (.inl (some (.int (bI (if c < 7 then false else true)))), M, κ))
    : RT 83 (0, [.int c], [], M, κ) Q := by
  refine w_load i_83_0 rfl rfl ?_
  refine w_push i_83_1 rfl ?_
  have K1 : RT 83 (11, [.int c], [.int (bI (if c < 7 then false else true))], M, κ) Q := by
    exact w_iret i_83_11 (.inr ⟨rfl, isB_bI _⟩) (k1)
  refine w_if2 (c < 7) i_83_3 cI_lt ?_ ?_
  · intro h2
    refine w_push i_83_10 rfl ?_
    exact (by first | exact (K1) | (have K9 := K1; simp only [↓if_pos h2] at K9 ⊢; exact (K9)))
  · intro h3
    refine w_push i_83_6 rfl ?_
    refine w_goto i_83_7 ?_
    exact (by first | exact (K1) | (have K9 := K1; simp only [↓if_neg h3] at K9 ⊢; exact (K9)))
theorem c83 (hκ : Rd κ) {c : Int32} : Run 83 (0, entL 83 [.int c], [], M, κ) (.inl (some (.int (bI (isP c)))), M, κ) := RT_run (S83_0 hκ rfl)
theorem i_84_0 : ins 84 0 = some (.iload_n 0, 1, 0, 0, 0, 0) := rfl
theorem i_84_1 : ins 84 1 = some (.bipush 63, 3, 0, 0, 0, 63) := rfl
theorem i_84_3 : ins 84 3 = some (.iand, 4, 0, 0, 0, 0) := rfl
theorem i_84_4 : ins 84 4 = some (.ireturn, 5, 0, 0, 0, 0) := rfl
theorem S84_0 {Q : Ou → Prop} {M : Mem} {κ : Kp} (hκ : Rd κ)  {a : Int32}
    (k1 : Q (.inl (some (.int (a &&& 63))), M, κ))
    : RT 84 (0, [.int a], [], M, κ) Q := by
  refine w_load i_84_0 rfl rfl ?_
  refine w_push i_84_1 rfl ?_
  refine w_bin (w := (a &&& 63)) i_84_3 rfl rfl ?_
  exact w_iret i_84_4 (.inl rfl) (k1)
theorem c84 (hκ : Rd κ) {a : Int32} : Run 84 (0, entL 84 [.int a], [], M, κ) (.inl (some (.int (a &&& 63))), M, κ) := RT_run (S84_0 hκ rfl)
theorem i_21_0 : ins 21 0 = some (.iload_n 0, 1, 0, 0, 0, 0) := rfl
theorem i_21_1 : ins 21 1 = some (.bipush 6, 3, 0, 0, 0, 6) := rfl
theorem i_21_3 : ins 21 3 = some (.if_icmp .eq 15, 6, 18, 0, 0, 0) := rfl
theorem i_21_6 : ins 21 6 = some (.iload_n 0, 7, 0, 0, 0, 0) := rfl
theorem i_21_7 : ins 21 7 = some (.bipush 9, 9, 0, 0, 0, 9) := rfl
theorem i_21_9 : ins 21 9 = some (.if_icmp .eq 9, 12, 18, 0, 0, 0) := rfl
theorem i_21_12 : ins 21 12 = some (.iload_n 0, 13, 0, 0, 0, 0) := rfl
theorem i_21_13 : ins 21 13 = some (.bipush 8, 15, 0, 0, 0, 8) := rfl
theorem i_21_15 : ins 21 15 = some (.if_icmp .ne 7, 18, 22, 0, 0, 0) := rfl
theorem i_21_18 : ins 21 18 = some (.iconst 1, 19, 0, 0, 0, 1) := rfl
theorem i_21_19 : ins 21 19 = some (.goto 4, 22, 23, 0, 0, 0) := rfl
theorem i_21_22 : ins 21 22 = some (.iconst 0, 23, 0, 0, 0, 0) := rfl
theorem i_21_23 : ins 21 23 = some (.ireturn, 24, 0, 0, 0, 0) := rfl
theorem S21_0 {Q : Ou → Prop} {M : Mem} {κ : Kp} (hκ : Rd κ)  {c : Int32}
    (k1 : Q (.inl (some (.int (bI (if c = 6 then true else (if c = 9 then true else (if c = 8 then true else false)))))), M, κ))
    : RT 21 (0, [.int c], [], M, κ) Q := by
  refine w_load i_21_0 rfl rfl ?_
  refine w_push i_21_1 rfl ?_
  have K1 : RT 21 (23, [.int c], [.int (bI (if c = 6 then true else (if c = 9 then true else (if c = 8 then true else false))))], M, κ) Q := by
    exact w_iret i_21_23 (.inr ⟨rfl, isB_bI _⟩) (k1)
  refine w_if2 (c = 6) i_21_3 cI_eq ?_ ?_
  · intro h2
    refine w_push i_21_18 rfl ?_
    refine w_goto i_21_19 ?_
    exact (by first | exact (K1) | (have K9 := K1; simp only [↓if_pos h2] at K9 ⊢; exact (K9)))
  · intro h3
    refine w_load i_21_6 rfl rfl ?_
    refine w_push i_21_7 rfl ?_
    refine w_if2 (c = 9) i_21_9 cI_eq ?_ ?_
    · intro h4
      refine w_push i_21_18 rfl ?_
      refine w_goto i_21_19 ?_
      exact (by first | exact (K1) | (have K9 := K1; simp only [↓if_neg h3, ↓if_pos h4] at K9 ⊢; exact (K9)))
    · intro h5
      refine w_load i_21_12 rfl rfl ?_
      refine w_push i_21_13 rfl ?_
      refine w_if2n (c = 8) i_21_15 cI_ne ?_ ?_
      · intro h6
        refine w_push i_21_18 rfl ?_
        refine w_goto i_21_19 ?_
        exact (by first | exact (K1) | (have K9 := K1; simp only [↓if_neg h3, ↓if_neg h5, ↓if_pos h6] at K9 ⊢; exact (K9)))
      · intro h7
        refine w_push i_21_22 rfl ?_
        exact (by first | exact (K1) | (have K9 := K1; simp only [↓if_neg h3, ↓if_neg h5, ↓if_neg h7] at K9 ⊢; exact (K9)))
theorem c21 (hκ : Rd κ) {c : Int32} : Run 21 (0, entL 21 [.int c], [], M, κ) (.inl (some (.int (bI (sbt c)))), M, κ) := RT_run (S21_0 hκ rfl)
theorem i_95_0 : ins 95 0 = some (.iload_n 0, 1, 0, 0, 0, 0) := rfl
theorem i_95_1 : ins 95 1 = some (.iload_n 1, 2, 1, 0, 0, 0) := rfl
theorem i_95_2 : ins 95 2 = some (.if_icmp .lt 8, 5, 10, 0, 0, 0) := rfl
theorem i_95_5 : ins 95 5 = some (.iload_n 0, 6, 0, 0, 0, 0) := rfl
theorem i_95_6 : ins 95 6 = some (.iload_n 2, 7, 2, 0, 0, 0) := rfl
theorem i_95_7 : ins 95 7 = some (.if_icmp .le 7, 10, 14, 0, 0, 0) := rfl
theorem i_95_10 : ins 95 10 = some (.iconst 1, 11, 0, 0, 0, 1) := rfl
theorem i_95_11 : ins 95 11 = some (.goto 4, 14, 15, 0, 0, 0) := rfl
theorem i_95_14 : ins 95 14 = some (.iconst 0, 15, 0, 0, 0, 0) := rfl
theorem i_95_15 : ins 95 15 = some (.ireturn, 16, 0, 0, 0, 0) := rfl
theorem S95_0 {Q : Ou → Prop} {M : Mem} {κ : Kp} (hκ : Rd κ)  {v : Int32} {l : Int32} {h : Int32}
    (k1 : Q (.inl (some (.int (bI (if v < l then true else (if h < v then true else false))))), M, κ))
    : RT 95 (0, [.int v, .int l, .int h], [], M, κ) Q := by
  refine w_load i_95_0 rfl rfl ?_
  refine w_load i_95_1 rfl rfl ?_
  have K1 : RT 95 (15, [.int v, .int l, .int h], [.int (bI (if v < l then true else (if h < v then true else false)))], M, κ) Q := by
    exact w_iret i_95_15 (.inr ⟨rfl, isB_bI _⟩) (k1)
  refine w_if2 (v < l) i_95_2 cI_lt ?_ ?_
  · intro h2
    refine w_push i_95_10 rfl ?_
    refine w_goto i_95_11 ?_
    exact (by first | exact (K1) | (have K9 := K1; simp only [↓if_pos h2] at K9 ⊢; exact (K9)))
  · intro h3
    refine w_load i_95_5 rfl rfl ?_
    refine w_load i_95_6 rfl rfl ?_
    refine w_if2n (h < v) i_95_7 cI_le ?_ ?_
    · intro h4
      refine w_push i_95_10 rfl ?_
      refine w_goto i_95_11 ?_
      exact (by first | exact (K1) | (have K9 := K1; simp only [↓if_neg h3, ↓if_pos h4] at K9 ⊢; exact (K9)))
    · intro h5
      refine w_push i_95_14 rfl ?_
      exact (by first | exact (K1) | (have K9 := K1; simp only [↓if_neg h3, ↓if_neg h5] at K9 ⊢; exact (K9)))
theorem c95 (hκ : Rd κ) {v : Int32} {l : Int32} {h : Int32} : Run 95 (0, entL 95 [.int v, .int l, .int h], [], M, κ) (.inl (some (.int (bI (outR v l h)))), M, κ) := RT_run (S95_0 hκ rfl)
theorem i_103_0 : ins 103 0 = some (.iload_n 0, 1, 0, 0, 0, 0) := rfl
theorem i_103_1 : ins 103 1 = some (.ifCond .eq 7, 4, 8, 0, 0, 0) := rfl
theorem i_103_4 : ins 103 4 = some (.iconst 1, 5, 0, 0, 0, 1) := rfl
theorem i_103_5 : ins 103 5 = some (.goto 4, 8, 9, 0, 0, 0) := rfl
theorem i_103_8 : ins 103 8 = some (.iconst 0, 9, 0, 0, 0, 0) := rfl
theorem i_103_9 : ins 103 9 = some (.ireturn, 10, 0, 0, 0, 0) := rfl
theorem S103_0 {Q : Ou → Prop} {M : Mem} {κ : Kp} (hκ : Rd κ)  {v : Int32}
    (k1 : Q (.inl (some (.int (bI (if v = 0 then false else true)))), M, κ))
    : RT 103 (0, [.int v], [], M, κ) Q := by
  refine w_load i_103_0 rfl rfl ?_
  have K1 : RT 103 (9, [.int v], [.int (bI (if v = 0 then false else true))], M, κ) Q := by
    exact w_iret i_103_9 (.inr ⟨rfl, isB_bI _⟩) (k1)
  refine w_if0 (v = 0) i_103_1 cI0_eq ?_ ?_
  · intro h2
    refine w_push i_103_8 rfl ?_
    exact (by first | exact (K1) | (have K9 := K1; simp only [↓if_pos h2] at K9 ⊢; exact (K9)))
  · intro h3
    refine w_push i_103_4 rfl ?_
    refine w_goto i_103_5 ?_
    exact (by first | exact (K1) | (have K9 := K1; simp only [↓if_neg h3] at K9 ⊢; exact (K9)))
theorem c103 (hκ : Rd κ) {v : Int32} : Run 103 (0, entL 103 [.int v], [], M, κ) (.inl (some (.int (bI (goes v)))), M, κ) := RT_run (S103_0 hκ rfl)
theorem i_104_0 : ins 104 0 = some (.iload_n 0, 1, 0, 0, 0, 0) := rfl
theorem i_104_1 : ins 104 1 = some (.iconst 2, 2, 0, 0, 0, 2) := rfl
theorem i_104_2 : ins 104 2 = some (.if_icmp .ne 7, 5, 9, 0, 0, 0) := rfl
theorem i_104_5 : ins 104 5 = some (.iconst 1, 6, 0, 0, 0, 1) := rfl
theorem i_104_6 : ins 104 6 = some (.goto 4, 9, 10, 0, 0, 0) := rfl
theorem i_104_9 : ins 104 9 = some (.iconst 0, 10, 0, 0, 0, 0) := rfl
theorem i_104_10 : ins 104 10 = some (.ireturn, 11, 0, 0, 0, 0) := rfl
theorem S104_0 {Q : Ou → Prop} {M : Mem} {κ : Kp} (hκ : Rd κ)  {v : Int32}
    (k1 : Q (.inl (some (.int (bI (if v = 2 then true else false)))), M, κ))
    : RT 104 (0, [.int v], [], M, κ) Q := by
  refine w_load i_104_0 rfl rfl ?_
  refine w_push i_104_1 rfl ?_
  have K1 : RT 104 (10, [.int v], [.int (bI (if v = 2 then true else false))], M, κ) Q := by
    exact w_iret i_104_10 (.inr ⟨rfl, isB_bI _⟩) (k1)
  refine w_if2n (v = 2) i_104_2 cI_ne ?_ ?_
  · intro h2
    refine w_push i_104_5 rfl ?_
    refine w_goto i_104_6 ?_
    exact (by first | exact (K1) | (have K9 := K1; simp only [↓if_pos h2] at K9 ⊢; exact (K9)))
  · intro h3
    refine w_push i_104_9 rfl ?_
    exact (by first | exact (K1) | (have K9 := K1; simp only [↓if_neg h3] at K9 ⊢; exact (K9)))
theorem c104 (hκ : Rd κ) {v : Int32} : Run 104 (0, entL 104 [.int v], [], M, κ) (.inl (some (.int (bI (forks v)))), M, κ) := RT_run (S104_0 hκ rfl)
theorem i_105_0 : ins 105 0 = some (.iload_n 0, 1, 0, 0, 0, 0) := rfl
theorem i_105_1 : ins 105 1 = some (.bipush 7, 3, 0, 0, 0, 7) := rfl
theorem i_105_3 : ins 105 3 = some (.if_icmp .gt 7, 6, 10, 0, 0, 0) := rfl
theorem i_105_6 : ins 105 6 = some (.iconst 1, 7, 0, 0, 0, 1) := rfl
theorem i_105_7 : ins 105 7 = some (.goto 4, 10, 11, 0, 0, 0) := rfl
theorem i_105_10 : ins 105 10 = some (.iconst 0, 11, 0, 0, 0, 0) := rfl
theorem i_105_11 : ins 105 11 = some (.ireturn, 12, 0, 0, 0, 0) := rfl
theorem S105_0 {Q : Ou → Prop} {M : Mem} {κ : Kp} (hκ : Rd κ)  {v : Int32}
    (k1 : Q (.inl (some (.int (bI (if 7 < v then false else true)))), M, κ))
    : RT 105 (0, [.int v], [], M, κ) Q := by
  refine w_load i_105_0 rfl rfl ?_
  refine w_push i_105_1 rfl ?_
  have K1 : RT 105 (11, [.int v], [.int (bI (if 7 < v then false else true))], M, κ) Q := by
    exact w_iret i_105_11 (.inr ⟨rfl, isB_bI _⟩) (k1)
  refine w_if2 (7 < v) i_105_3 cI_gt ?_ ?_
  · intro h2
    refine w_push i_105_10 rfl ?_
    exact (by first | exact (K1) | (have K9 := K1; simp only [↓if_pos h2] at K9 ⊢; exact (K9)))
  · intro h3
    refine w_push i_105_6 rfl ?_
    refine w_goto i_105_7 ?_
    exact (by first | exact (K1) | (have K9 := K1; simp only [↓if_neg h3] at K9 ⊢; exact (K9)))
theorem c105 (hκ : Rd κ) {v : Int32} : Run 105 (0, entL 105 [.int v], [], M, κ) (.inl (some (.int (bI (isW v)))), M, κ) := RT_run (S105_0 hκ rfl)
theorem i_15_0 : ins 15 0 = some (.iload_n 0, 1, 0, 0, 0, 0) := rfl
theorem i_15_1 : ins 15 1 = some (.bipush 10, 3, 0, 0, 0, 10) := rfl
theorem i_15_3 : ins 15 3 = some (.imul, 4, 0, 0, 0, 0) := rfl
theorem i_15_4 : ins 15 4 = some (.iload_n 1, 5, 1, 0, 0, 0) := rfl
theorem i_15_5 : ins 15 5 = some (.iadd, 6, 0, 0, 0, 0) := rfl
theorem i_15_6 : ins 15 6 = some (.ireturn, 7, 0, 0, 0, 0) := rfl
theorem S15_0 {Q : Ou → Prop} {M : Mem} {κ : Kp} (hκ : Rd κ)  {a : Int32} {b : Int32}
    (k1 : Q (.inl (some (.int ((a * 10) + b))), M, κ))
    : RT 15 (0, [.int a, .int b], [], M, κ) Q := by
  refine w_load i_15_0 rfl rfl ?_
  refine w_push i_15_1 rfl ?_
  refine w_bin (w := (a * 10)) i_15_3 rfl rfl ?_
  refine w_load i_15_4 rfl rfl ?_
  refine w_bin (w := ((a * 10) + b)) i_15_5 rfl rfl ?_
  exact w_iret i_15_6 (.inl rfl) (k1)
theorem c15 (hκ : Rd κ) {a : Int32} {b : Int32} : Run 15 (0, entL 15 [.int a, .int b], [], M, κ) (.inl (some (.int (a * 10 + b))), M, κ) := RT_run (S15_0 hκ rfl)
theorem c15N (hκ : Rd κ) {a b : Nat} : Run 15 (0, entL 15 [.int (nI a), .int (nI b)], [], M, κ) (.inl (some (.int (nI (a * 10 + b)))), M, κ) := by rw [← nI_add, ← nI_mul]; exact c15 hκ
theorem i_82_0 : ins 82 0 = some (.iconst 0, 1, 0, 0, 0, 0) := rfl
theorem i_82_1 : ins 82 1 = some (.iload_n 0, 2, 0, 0, 0, 0) := rfl
theorem i_82_2 : ins 82 2 = some (.bipush 11, 4, 0, 0, 0, 11) := rfl
theorem i_82_4 : ins 82 4 = some (.invokestatic 65, 7, 81, 1, 3, 0) := rfl
theorem i_82_7 : ins 82 7 = some (.ireturn, 8, 0, 0, 0, 0) := rfl
theorem S82_0 {Q : Ou → Prop} {M : Mem} {κ : Kp} (hκ : Rd κ)  {v : Int32}
    (k1 : Q (.inl (some (.int (bI (inR 0 v 11)))), M, κ))
    : RT 82 (0, [.int v], [], M, κ) Q := by
  refine w_push i_82_0 rfl ?_
  refine w_load i_82_1 rfl rfl ?_
  refine w_push i_82_2 rfl ?_
  refine w_callS i_82_4 ⟨by decide, by decide, by decide, rfl, rfl⟩ (av := [.int 0, .int v, .int 11]) (rest := []) rfl rfl (Nat.le_of_ble_eq_true rfl) (v := some (.int (bI (inR 0 v 11)))) (c81 hκ) ?_
  exact w_iret i_82_7 (.inr ⟨rfl, isB_bI _⟩) (k1)
theorem c82 (hκ : Rd κ) {v : Int32} : Run 82 (0, entL 82 [.int v], [], M, κ) (.inl (some (.int (bI (inR 0 v 11)))), M, κ) := RT_run (S82_0 hκ rfl)
theorem i_96_0 : ins 96 0 = some (.iload_n 0, 1, 0, 0, 0, 0) := rfl
theorem i_96_1 : ins 96 1 = some (.iconst 1, 2, 0, 0, 0, 1) := rfl
theorem i_96_2 : ins 96 2 = some (.bipush 8, 4, 0, 0, 0, 8) := rfl
theorem i_96_4 : ins 96 4 = some (.invokestatic 162, 7, 95, 1, 3, 0) := rfl
theorem i_96_7 : ins 96 7 = some (.ifCond .ne 7, 10, 14, 0, 0, 0) := rfl
theorem i_96_10 : ins 96 10 = some (.iconst 1, 11, 0, 0, 0, 1) := rfl
theorem i_96_11 : ins 96 11 = some (.goto 4, 14, 15, 0, 0, 0) := rfl
theorem i_96_14 : ins 96 14 = some (.iconst 0, 15, 0, 0, 0, 0) := rfl
theorem i_96_15 : ins 96 15 = some (.ireturn, 16, 0, 0, 0, 0) := rfl
theorem S96_0 {Q : Ou → Prop} {M : Mem} {κ : Kp} (hκ : Rd κ)  {v : Int32}
    (k1 : Q (.inl (some (.int (bI (if (outR v 1 8) = true then false else true)))), M, κ))
    : RT 96 (0, [.int v], [], M, κ) Q := by
  refine w_load i_96_0 rfl rfl ?_
  refine w_push i_96_1 rfl ?_
  refine w_push i_96_2 rfl ?_
  refine w_callS i_96_4 ⟨by decide, by decide, by decide, rfl, rfl⟩ (av := [.int v, .int 1, .int 8]) (rest := []) rfl rfl (Nat.le_of_ble_eq_true rfl) (v := some (.int (bI (outR v 1 8)))) (c95 hκ) ?_
  have K1 : RT 96 (15, [.int v], [.int (bI (if (outR v 1 8) = true then false else true))], M, κ) Q := by
    exact w_iret i_96_15 (.inr ⟨rfl, isB_bI _⟩) (k1)
  refine w_if0 ((outR v 1 8) = true) i_96_7 cB_ne ?_ ?_
  · intro h2
    refine w_push i_96_14 rfl ?_
    exact (by first | exact (K1) | (have K9 := K1; simp only [↓if_pos h2] at K9 ⊢; exact (K9)))
  · intro h3
    refine w_push i_96_10 rfl ?_
    refine w_goto i_96_11 ?_
    exact (by first | exact (K1) | (have K9 := K1; simp only [↓if_neg h3] at K9 ⊢; exact (K9)))
theorem c96 (hκ : Rd κ) {v : Int32} : Run 96 (0, entL 96 [.int v], [], M, κ) (.inl (some (.int (bI (!outR v 1 8)))), M, κ) := RT_run (S96_0 hκ (by cases outR v 1 8 <;> rfl))
theorem i_62_0 : ins 62 0 = some (.iload_n 1, 1, 1, 0, 0, 0) := rfl
theorem i_62_1 : ins 62 1 = some (.ifCond .le 9, 4, 10, 0, 0, 0) := rfl
theorem i_62_4 : ins 62 4 = some (.iload_n 0, 5, 0, 0, 0, 0) := rfl
theorem i_62_5 : ins 62 5 = some (.iload_n 1, 6, 1, 0, 0, 0) := rfl
theorem i_62_6 : ins 62 6 = some (.idiv, 7, 0, 0, 0, 0) := rfl
theorem i_62_7 : ins 62 7 = some (.goto 4, 10, 11, 0, 0, 0) := rfl
theorem i_62_10 : ins 62 10 = some (.iconst 0, 11, 0, 0, 0, 0) := rfl
theorem i_62_11 : ins 62 11 = some (.ireturn, 12, 0, 0, 0, 0) := rfl
theorem S62_0 {Q : Ou → Prop} {M : Mem} {κ : Kp} (hκ : Rd κ)  {c : Int32} {r : Int32}
    (o1 : 0 < r → ¬ r = 0)
    (k1 : Q (.inl (some (.int (if 0 < r then (c / r) else 0))), M, κ))
    : RT 62 (0, [.int c, .int r], [], M, κ) Q := by
  refine w_load i_62_0 rfl rfl ?_
  have K1 : RT 62 (11, [.int c, .int r], [.int (if 0 < r then (c / r) else 0)], M, κ) Q := by
    exact w_iret i_62_11 (.inl rfl) (k1)
  refine w_if0n (0 < r) i_62_1 cI0_le ?_ ?_
  · intro h2
    refine w_load i_62_4 rfl rfl ?_
    refine w_load i_62_5 rfl rfl ?_
    refine w_div (w := (c / r)) i_62_6 rfl (o1 h2) rfl ?_
    refine w_goto i_62_7 ?_
    exact (by first | exact (K1) | (have K9 := K1; simp only [↓if_pos h2] at K9 ⊢; exact (K9)))
  · intro h3
    refine w_push i_62_10 rfl ?_
    exact (by first | exact (K1) | (have K9 := K1; simp only [↓if_neg h3] at K9 ⊢; exact (K9)))
theorem c62 (hκ : Rd κ) {c r : Int32} : Run 62 (0, entL 62 [.int c, .int r], [], M, κ) (.inl (some (.int (dvF c r))), M, κ) := RT_run (S62_0 hκ lt0_ne rfl)
theorem i_63_0 : ins 63 0 = some (.iload_n 1, 1, 1, 0, 0, 0) := rfl
theorem i_63_1 : ins 63 1 = some (.ifCond .le 9, 4, 10, 0, 0, 0) := rfl
theorem i_63_4 : ins 63 4 = some (.iload_n 0, 5, 0, 0, 0, 0) := rfl
theorem i_63_5 : ins 63 5 = some (.iload_n 1, 6, 1, 0, 0, 0) := rfl
theorem i_63_6 : ins 63 6 = some (.irem, 7, 0, 0, 0, 0) := rfl
theorem i_63_7 : ins 63 7 = some (.goto 4, 10, 11, 0, 0, 0) := rfl
theorem i_63_10 : ins 63 10 = some (.iconst 0, 11, 0, 0, 0, 0) := rfl
theorem i_63_11 : ins 63 11 = some (.ireturn, 12, 0, 0, 0, 0) := rfl
theorem S63_0 {Q : Ou → Prop} {M : Mem} {κ : Kp} (hκ : Rd κ)  {c : Int32} {r : Int32}
    (o1 : 0 < r → ¬ r = 0)
    (k1 : Q (.inl (some (.int (if 0 < r then (rm c r) else 0))), M, κ))
    : RT 63 (0, [.int c, .int r], [], M, κ) Q := by
  refine w_load i_63_0 rfl rfl ?_
  have K1 : RT 63 (11, [.int c, .int r], [.int (if 0 < r then (rm c r) else 0)], M, κ) Q := by
    exact w_iret i_63_11 (.inl rfl) (k1)
  refine w_if0n (0 < r) i_63_1 cI0_le ?_ ?_
  · intro h2
    refine w_load i_63_4 rfl rfl ?_
    refine w_load i_63_5 rfl rfl ?_
    refine w_div (w := (rm c r)) i_63_6 rfl (o1 h2) rfl ?_
    refine w_goto i_63_7 ?_
    exact (by first | exact (K1) | (have K9 := K1; simp only [↓if_pos h2] at K9 ⊢; exact (K9)))
  · intro h3
    refine w_push i_63_10 rfl ?_
    exact (by first | exact (K1) | (have K9 := K1; simp only [↓if_neg h3] at K9 ⊢; exact (K9)))
theorem c63 (hκ : Rd κ) {c r : Int32} : Run 63 (0, entL 63 [.int c, .int r], [], M, κ) (.inl (some (.int (rmF c r))), M, κ) := RT_run (S63_0 hκ lt0_ne rfl)
theorem i_20_0 : ins 20 0 = some (.iload_n 0, 1, 0, 0, 0, 0) := rfl
theorem i_20_1 : ins 20 1 = some (.bipush 9, 3, 0, 0, 0, 9) := rfl
theorem i_20_3 : ins 20 3 = some (.if_icmp .ne 9, 6, 12, 0, 0, 0) := rfl
theorem i_20_6 : ins 20 6 = some (.iload_n 1, 7, 1, 0, 0, 0) := rfl
theorem i_20_7 : ins 20 7 = some (.bipush 9, 9, 0, 0, 0, 9) := rfl
theorem i_20_9 : ins 20 9 = some (.if_icmp .eq 29, 12, 38, 0, 0, 0) := rfl
theorem i_20_12 : ins 20 12 = some (.iload_n 0, 13, 0, 0, 0, 0) := rfl
theorem i_20_13 : ins 20 13 = some (.bipush 6, 15, 0, 0, 0, 6) := rfl
theorem i_20_15 : ins 20 15 = some (.if_icmp .ne 10, 18, 25, 0, 0, 0) := rfl
theorem i_20_18 : ins 20 18 = some (.iload_n 1, 19, 1, 0, 0, 0) := rfl
theorem i_20_19 : ins 20 19 = some (.invokestatic 101, 22, 21, 1, 1, 0) := rfl
theorem i_20_22 : ins 20 22 = some (.ifCond .ne 16, 25, 38, 0, 0, 0) := rfl
theorem i_20_25 : ins 20 25 = some (.iload_n 1, 26, 1, 0, 0, 0) := rfl
theorem i_20_26 : ins 20 26 = some (.bipush 6, 28, 0, 0, 0, 6) := rfl
theorem i_20_28 : ins 20 28 = some (.if_icmp .ne 14, 31, 42, 0, 0, 0) := rfl
theorem i_20_31 : ins 20 31 = some (.iload_n 0, 32, 0, 0, 0, 0) := rfl
theorem i_20_32 : ins 20 32 = some (.invokestatic 101, 35, 21, 1, 1, 0) := rfl
theorem i_20_35 : ins 20 35 = some (.ifCond .eq 7, 38, 42, 0, 0, 0) := rfl
theorem i_20_38 : ins 20 38 = some (.iconst 1, 39, 0, 0, 0, 1) := rfl
theorem i_20_39 : ins 20 39 = some (.goto 4, 42, 43, 0, 0, 0) := rfl
theorem i_20_42 : ins 20 42 = some (.iconst 0, 43, 0, 0, 0, 0) := rfl
theorem i_20_43 : ins 20 43 = some (.ireturn, 44, 0, 0, 0, 0) := rfl
theorem S20_0 {Q : Ou → Prop} {M : Mem} {κ : Kp} (hκ : Rd κ)  {c : Int32} {d : Int32}
    (k1 : Q (.inl (some (.int (bI (if c = 9 then (if d = 9 then true else (if c = 6 then (if (sbt d) = true then true else (if d = 6 then (if (sbt c) = true then true else false) else false)) else (if d = 6 then (if (sbt c) = true then true else false) else false))) else (if c = 6 then (if (sbt d) = true then true else (if d = 6 then (if (sbt c) = true then true else false) else false)) else (if d = 6 then (if (sbt c) = true then true else false) else false)))))), M, κ))
    : RT 20 (0, [.int c, .int d], [], M, κ) Q := by
  refine w_load i_20_0 rfl rfl ?_
  refine w_push i_20_1 rfl ?_
  have K1 : RT 20 (43, [.int c, .int d], [.int (bI (if c = 9 then (if d = 9 then true else (if c = 6 then (if (sbt d) = true then true else (if d = 6 then (if (sbt c) = true then true else false) else false)) else (if d = 6 then (if (sbt c) = true then true else false) else false))) else (if c = 6 then (if (sbt d) = true then true else (if d = 6 then (if (sbt c) = true then true else false) else false)) else (if d = 6 then (if (sbt c) = true then true else false) else false))))], M, κ) Q := by
    exact w_iret i_20_43 (.inr ⟨rfl, isB_bI _⟩) (k1)
  refine w_if2n (c = 9) i_20_3 cI_ne ?_ ?_
  · intro h2
    refine w_load i_20_6 rfl rfl ?_
    refine w_push i_20_7 rfl ?_
    refine w_if2 (d = 9) i_20_9 cI_eq ?_ ?_
    · intro h3
      refine w_push i_20_38 rfl ?_
      refine w_goto i_20_39 ?_
      exact (by first | exact (K1) | (have K9 := K1; simp only [↓if_pos h2, ↓if_pos h3] at K9 ⊢; exact (K9)))
    · intro h4
      refine w_load i_20_12 rfl rfl ?_
      refine w_push i_20_13 rfl ?_
      refine w_if2n (c = 6) i_20_15 cI_ne ?_ ?_
      · intro h5
        refine w_load i_20_18 rfl rfl ?_
        refine w_callS i_20_19 ⟨by decide, by decide, by decide, rfl, rfl⟩ (av := [.int d]) (rest := []) rfl rfl (Nat.le_of_ble_eq_true rfl) (v := some (.int (bI (sbt d)))) (c21 hκ) ?_
        refine w_if0 ((sbt d) = true) i_20_22 cB_ne ?_ ?_
        · intro h6
          refine w_push i_20_38 rfl ?_
          refine w_goto i_20_39 ?_
          exact (by first | exact (K1) | (have K9 := K1; simp only [↓if_pos h2, ↓if_neg h4, ↓if_pos h5, ↓if_pos h6] at K9 ⊢; exact (K9)))
        · intro h7
          refine w_load i_20_25 rfl rfl ?_
          refine w_push i_20_26 rfl ?_
          refine w_if2n (d = 6) i_20_28 cI_ne ?_ ?_
          · intro h8
            refine w_load i_20_31 rfl rfl ?_
            refine w_callS i_20_32 ⟨by decide, by decide, by decide, rfl, rfl⟩ (av := [.int c]) (rest := []) rfl rfl (Nat.le_of_ble_eq_true rfl) (v := some (.int (bI (sbt c)))) (c21 hκ) ?_
            refine w_if0n ((sbt c) = true) i_20_35 cB_eq ?_ ?_
            · intro h9
              refine w_push i_20_38 rfl ?_
              refine w_goto i_20_39 ?_
              exact (by first | exact (K1) | (have K9 := K1; simp only [↓if_pos h2, ↓if_neg h4, ↓if_pos h5, ↓if_neg h7, ↓if_pos h8, ↓if_pos h9] at K9 ⊢; exact (K9)))
            · intro h10
              refine w_push i_20_42 rfl ?_
              exact (by first | exact (K1) | (have K9 := K1; simp only [↓if_pos h2, ↓if_neg h4, ↓if_pos h5, ↓if_neg h7, ↓if_pos h8, ↓if_neg h10] at K9 ⊢; exact (K9)))
          · intro h11
            refine w_push i_20_42 rfl ?_
            exact (by first | exact (K1) | (have K9 := K1; simp only [↓if_pos h2, ↓if_neg h4, ↓if_pos h5, ↓if_neg h7, ↓if_neg h11] at K9 ⊢; exact (K9)))
      · intro h12
        refine w_load i_20_25 rfl rfl ?_
        refine w_push i_20_26 rfl ?_
        refine w_if2n (d = 6) i_20_28 cI_ne ?_ ?_
        · intro h13
          refine w_load i_20_31 rfl rfl ?_
          refine w_callS i_20_32 ⟨by decide, by decide, by decide, rfl, rfl⟩ (av := [.int c]) (rest := []) rfl rfl (Nat.le_of_ble_eq_true rfl) (v := some (.int (bI (sbt c)))) (c21 hκ) ?_
          refine w_if0n ((sbt c) = true) i_20_35 cB_eq ?_ ?_
          · intro h14
            refine w_push i_20_38 rfl ?_
            refine w_goto i_20_39 ?_
            exact (by first | exact (K1) | (have K9 := K1; simp only [↓if_pos h2, ↓if_neg h4, ↓if_neg h12, ↓if_pos h13, ↓if_pos h14] at K9 ⊢; exact (K9)))
          · intro h15
            refine w_push i_20_42 rfl ?_
            exact (by first | exact (K1) | (have K9 := K1; simp only [↓if_pos h2, ↓if_neg h4, ↓if_neg h12, ↓if_pos h13, ↓if_neg h15] at K9 ⊢; exact (K9)))
        · intro h16
          refine w_push i_20_42 rfl ?_
          exact (by first | exact (K1) | (have K9 := K1; simp only [↓if_pos h2, ↓if_neg h4, ↓if_neg h12, ↓if_neg h16] at K9 ⊢; exact (K9)))
  · intro h17
    refine w_load i_20_12 rfl rfl ?_
    refine w_push i_20_13 rfl ?_
    refine w_if2n (c = 6) i_20_15 cI_ne ?_ ?_
    · intro h18
      refine w_load i_20_18 rfl rfl ?_
      refine w_callS i_20_19 ⟨by decide, by decide, by decide, rfl, rfl⟩ (av := [.int d]) (rest := []) rfl rfl (Nat.le_of_ble_eq_true rfl) (v := some (.int (bI (sbt d)))) (c21 hκ) ?_
      refine w_if0 ((sbt d) = true) i_20_22 cB_ne ?_ ?_
      · intro h19
        refine w_push i_20_38 rfl ?_
        refine w_goto i_20_39 ?_
        exact (by first | exact (K1) | (have K9 := K1; simp only [↓if_neg h17, ↓if_pos h18, ↓if_pos h19] at K9 ⊢; exact (K9)))
      · intro h20
        refine w_load i_20_25 rfl rfl ?_
        refine w_push i_20_26 rfl ?_
        refine w_if2n (d = 6) i_20_28 cI_ne ?_ ?_
        · intro h21
          refine w_load i_20_31 rfl rfl ?_
          refine w_callS i_20_32 ⟨by decide, by decide, by decide, rfl, rfl⟩ (av := [.int c]) (rest := []) rfl rfl (Nat.le_of_ble_eq_true rfl) (v := some (.int (bI (sbt c)))) (c21 hκ) ?_
          refine w_if0n ((sbt c) = true) i_20_35 cB_eq ?_ ?_
          · intro h22
            refine w_push i_20_38 rfl ?_
            refine w_goto i_20_39 ?_
            exact (by first | exact (K1) | (have K9 := K1; simp only [↓if_neg h17, ↓if_pos h18, ↓if_neg h20, ↓if_pos h21, ↓if_pos h22] at K9 ⊢; exact (K9)))
          · intro h23
            refine w_push i_20_42 rfl ?_
            exact (by first | exact (K1) | (have K9 := K1; simp only [↓if_neg h17, ↓if_pos h18, ↓if_neg h20, ↓if_pos h21, ↓if_neg h23] at K9 ⊢; exact (K9)))
        · intro h24
          refine w_push i_20_42 rfl ?_
          exact (by first | exact (K1) | (have K9 := K1; simp only [↓if_neg h17, ↓if_pos h18, ↓if_neg h20, ↓if_neg h24] at K9 ⊢; exact (K9)))
    · intro h25
      refine w_load i_20_25 rfl rfl ?_
      refine w_push i_20_26 rfl ?_
      refine w_if2n (d = 6) i_20_28 cI_ne ?_ ?_
      · intro h26
        refine w_load i_20_31 rfl rfl ?_
        refine w_callS i_20_32 ⟨by decide, by decide, by decide, rfl, rfl⟩ (av := [.int c]) (rest := []) rfl rfl (Nat.le_of_ble_eq_true rfl) (v := some (.int (bI (sbt c)))) (c21 hκ) ?_
        refine w_if0n ((sbt c) = true) i_20_35 cB_eq ?_ ?_
        · intro h27
          refine w_push i_20_38 rfl ?_
          refine w_goto i_20_39 ?_
          exact (by first | exact (K1) | (have K9 := K1; simp only [↓if_neg h17, ↓if_neg h25, ↓if_pos h26, ↓if_pos h27] at K9 ⊢; exact (K9)))
        · intro h28
          refine w_push i_20_42 rfl ?_
          exact (by first | exact (K1) | (have K9 := K1; simp only [↓if_neg h17, ↓if_neg h25, ↓if_pos h26, ↓if_neg h28] at K9 ⊢; exact (K9)))
      · intro h29
        refine w_push i_20_42 rfl ?_
        exact (by first | exact (K1) | (have K9 := K1; simp only [↓if_neg h17, ↓if_neg h25, ↓if_neg h29] at K9 ⊢; exact (K9)))
theorem c20 (hκ : Rd κ) {c d : Int32} : Run 20 (0, entL 20 [.int c, .int d], [], M, κ) (.inl (some (.int (bI (ordF c d)))), M, κ) := RT_run (S20_0 hκ (by simp only [sbt, ordF]; congr 5; grind))
theorem i_121_0 : ins 121 0 = some (.iload_n 1, 1, 1, 0, 0, 0) := rfl
theorem i_121_1 : ins 121 1 = some (.iload_n 2, 2, 2, 0, 0, 0) := rfl
theorem i_121_2 : ins 121 2 = some (.if_icmp .le 7, 5, 9, 0, 0, 0) := rfl
theorem i_121_5 : ins 121 5 = some (.iload_n 1, 6, 1, 0, 0, 0) := rfl
theorem i_121_6 : ins 121 6 = some (.goto 4, 9, 10, 0, 0, 0) := rfl
theorem i_121_9 : ins 121 9 = some (.iload_n 2, 10, 2, 0, 0, 0) := rfl
theorem i_121_10 : ins 121 10 = some (.ireturn, 11, 0, 0, 0, 0) := rfl
theorem S121_0 {Q : Ou → Prop} {M : Mem} {κ : Kp} (hκ : Rd κ)  {x : Int32} {y : Int32}
    (k1 : Q (.inl (some (.int (if y < x then x else y))), M, κ))
    : RT 121 (0, [.ref 134, .int x, .int y], [], M, κ) Q := by
  refine w_load i_121_0 rfl rfl ?_
  refine w_load i_121_1 rfl rfl ?_
  have K1 : RT 121 (10, [.ref 134, .int x, .int y], [.int (if y < x then x else y)], M, κ) Q := by
    exact w_iret i_121_10 (.inl rfl) (k1)
  refine w_if2n (y < x) i_121_2 cI_le ?_ ?_
  · intro h2
    refine w_load i_121_5 rfl rfl ?_
    refine w_goto i_121_6 ?_
    exact (by first | exact (K1) | (have K9 := K1; simp only [↓if_pos h2] at K9 ⊢; exact (K9)))
  · intro h3
    refine w_load i_121_9 rfl rfl ?_
    exact (by first | exact (K1) | (have K9 := K1; simp only [↓if_neg h3] at K9 ⊢; exact (K9)))
theorem gt_mx {x y : Int32} : (if y < x then x else y) = mx x y := by
  unfold mx
  split <;> split <;> first | rfl | skip
  · exact absurd ‹x < y› (Int32.not_lt.mpr (Int32.le_of_lt ‹y < x›))
  · exact Int32.le_antisymm (Int32.not_lt.mp ‹¬ x < y›) (Int32.not_lt.mp ‹¬ y < x›)
theorem c121 (hκ : Rd κ) {x y : Int32} : Run 121 (0, entL 121 [.ref 134, .int x, .int y], [], M, κ) (.inl (some (.int (mx x y))), M, κ) := RT_run (S121_0 hκ (by rw [gt_mx]))
theorem i_35_0 : ins 35 0 = some (.iload_n 1, 1, 1, 0, 0, 0) := rfl
theorem i_35_1 : ins 35 1 = some (.tableswitch 56 4 9 #[39, 56, 44, 49, 54, 54], 40, 0, 0, 0, 0) := rfl
theorem i_35_40 : ins 35 40 = some (.aload_n 0, 41, 0, 0, 0, 0) := rfl
theorem i_35_41 : ins 35 41 = some (.getfield 21, 44, 2, 3, 0, 0) := rfl
theorem i_35_44 : ins 35 44 = some (.ireturn, 45, 0, 0, 0, 0) := rfl
theorem i_35_45 : ins 35 45 = some (.aload_n 0, 46, 0, 0, 0, 0) := rfl
theorem i_35_46 : ins 35 46 = some (.getfield 24, 49, 2, 4, 0, 0) := rfl
theorem i_35_49 : ins 35 49 = some (.ireturn, 50, 0, 0, 0, 0) := rfl
theorem i_35_50 : ins 35 50 = some (.aload_n 0, 51, 0, 0, 0, 0) := rfl
theorem i_35_51 : ins 35 51 = some (.getfield 27, 54, 2, 5, 0, 0) := rfl
theorem i_35_54 : ins 35 54 = some (.ireturn, 55, 0, 0, 0, 0) := rfl
theorem i_35_55 : ins 35 55 = some (.iconst 1, 56, 0, 0, 0, 1) := rfl
theorem i_35_56 : ins 35 56 = some (.ireturn, 57, 0, 0, 0, 0) := rfl
theorem i_35_57 : ins 35 57 = some (.aload_n 0, 58, 0, 0, 0, 0) := rfl
theorem i_35_58 : ins 35 58 = some (.getfield 18, 61, 2, 2, 0, 0) := rfl
theorem i_35_61 : ins 35 61 = some (.ireturn, 62, 0, 0, 0, 0) := rfl
theorem tg_35_1 {x : Int32} (h0 : ¬ x = 4) (h1 : ¬ x = 5) (h2 : ¬ x = 6) (h3 : ¬ x = 7) (h4 : ¬ x = 8) (h5 : ¬ x = 9) : tgtOk 1 (.tableswitch 56 4 9 #[39, 56, 44, 49, 54, 54]) x 57 = true := tgd (by have e0 : x.toInt ≠ 4 := fun e => h0 (Int32.toInt_inj.mp e); have e1 : x.toInt ≠ 5 := fun e => h1 (Int32.toInt_inj.mp e); have e2 : x.toInt ≠ 6 := fun e => h2 (Int32.toInt_inj.mp e); have e3 : x.toInt ≠ 7 := fun e => h3 (Int32.toInt_inj.mp e); have e4 : x.toInt ≠ 8 := fun e => h4 (Int32.toInt_inj.mp e); have e5 : x.toInt ≠ 9 := fun e => h5 (Int32.toInt_inj.mp e); omega) (by decide)
theorem S35_0 {Q : Ou → Prop} {M : Mem} {κ : Kp} (hκ : Rd κ)  {c : Int32}
    (k1 : c = 4 → Q (.inl (some (.int (M 1 3))), M, κ))
    (k2 : ¬ (c = 4) → c = 5 → Q (.inl (some (.int (M 1 2))), M, κ))
    (k3 : ¬ (c = 4) → ¬ (c = 5) → c = 6 → Q (.inl (some (.int (M 1 4))), M, κ))
    (k4 : ¬ (c = 4) → ¬ (c = 5) → ¬ (c = 6) → c = 7 → Q (.inl (some (.int (M 1 5))), M, κ))
    (k5 : ¬ (c = 4) → ¬ (c = 5) → ¬ (c = 6) → ¬ (c = 7) → c = 8 → Q (.inl (some (.int 1)), M, κ))
    (k6 : ¬ (c = 4) → ¬ (c = 5) → ¬ (c = 6) → ¬ (c = 7) → ¬ (c = 8) → c = 9 → Q (.inl (some (.int 1)), M, κ))
    (k7 : ¬ (c = 4) → ¬ (c = 5) → ¬ (c = 6) → ¬ (c = 7) → ¬ (c = 8) → ¬ (c = 9) → Q (.inl (some (.int (M 1 2))), M, κ))
    : RT 35 (0, [.ref 1, .int c], [], M, κ) Q := by
  refine w_load i_35_0 rfl rfl ?_
  by_cases h1 : c = 4
  · refine w_table 40 i_35_1 (by rw [h1]; rfl) ?_
    refine w_load i_35_40 rfl rfl ?_
    refine w_getI (v := (M 1 3)) i_35_41 hκ (⟨rfl, by decide⟩ : isOb 1 2) rfl (rfl) ?_
    exact w_iret i_35_44 (.inl rfl) (k1 h1)
  · have h2 := h1
    by_cases h3 : c = 5
    · refine w_table 57 i_35_1 (by rw [h3]; rfl) ?_
      refine w_load i_35_57 rfl rfl ?_
      refine w_getI (v := (M 1 2)) i_35_58 hκ (⟨rfl, by decide⟩ : isOb 1 2) rfl (rfl) ?_
      exact w_iret i_35_61 (.inl rfl) (k2 h2 h3)
    · have h4 := h3
      by_cases h5 : c = 6
      · refine w_table 45 i_35_1 (by rw [h5]; rfl) ?_
        refine w_load i_35_45 rfl rfl ?_
        refine w_getI (v := (M 1 4)) i_35_46 hκ (⟨rfl, by decide⟩ : isOb 1 2) rfl (rfl) ?_
        exact w_iret i_35_49 (.inl rfl) (k3 h2 h4 h5)
      · have h6 := h5
        by_cases h7 : c = 7
        · refine w_table 50 i_35_1 (by rw [h7]; rfl) ?_
          refine w_load i_35_50 rfl rfl ?_
          refine w_getI (v := (M 1 5)) i_35_51 hκ (⟨rfl, by decide⟩ : isOb 1 2) rfl (rfl) ?_
          exact w_iret i_35_54 (.inl rfl) (k4 h2 h4 h6 h7)
        · have h8 := h7
          by_cases h9 : c = 8
          · refine w_table 55 i_35_1 (by rw [h9]; rfl) ?_
            refine w_push i_35_55 rfl ?_
            exact w_iret i_35_56 (.inl rfl) (k5 h2 h4 h6 h8 h9)
          · have h10 := h9
            by_cases h11 : c = 9
            · refine w_table 55 i_35_1 (by rw [h11]; rfl) ?_
              refine w_push i_35_55 rfl ?_
              exact w_iret i_35_56 (.inl rfl) (k6 h2 h4 h6 h8 h10 h11)
            · have h12 := h11
              refine w_table 57 i_35_1 (tg_35_1 h2 h4 h6 h8 h10 h12) ?_
              refine w_load i_35_57 rfl rfl ?_
              refine w_getI (v := (M 1 2)) i_35_58 hκ (⟨rfl, by decide⟩ : isOb 1 2) rfl (rfl) ?_
              exact w_iret i_35_61 (.inl rfl) (k7 h2 h4 h6 h8 h10 h12)
theorem c35 (hκ : Rd κ)  {pl : Int32} {mu : Int32} {di : Int32} {lo : Int32} {c : Int32} (e0 : M 1 2 = pl) (e1 : M 1 3 = mu) (e2 : M 1 4 = di) (e3 : M 1 5 = lo) : Run 35 (0, entL 35 [.ref 1, .int c], [], M, κ) (.inl (some (.int (latF pl mu di lo c))), M, κ) := by
  subst e0 e1 e2 e3
  exact RT_run (S35_0 hκ (by intros; simp only [latF]; simp [*]) (by intros; simp only [latF]; simp [*]) (by intros; simp only [latF]; simp [*]) (by intros; simp only [latF]; simp [*]) (by intros; simp only [latF]; simp [*]) (by intros; simp only [latF]; simp [*]) (by intros; simp only [latF]; simp [*]))
theorem i_115_0 : ins 115 0 = some (.aload_n 0, 1, 0, 0, 0, 0) := rfl
theorem i_115_1 : ins 115 1 = some (.getfield 81, 4, 7, 27, 0, 0) := rfl
theorem i_115_4 : ins 115 4 = some (.iload_n 1, 5, 1, 0, 0, 0) := rfl
theorem i_115_5 : ins 115 5 = some (.iaload, 6, 0, 0, 0, 0) := rfl
theorem i_115_6 : ins 115 6 = some (.tableswitch 55 4 9 #[43, 55, 38, 48, 53, 53], 44, 0, 0, 0, 0) := rfl
theorem i_115_44 : ins 115 44 = some (.aload_n 0, 45, 0, 0, 0, 0) := rfl
theorem i_115_45 : ins 115 45 = some (.getfield 22, 48, 7, 5, 0, 0) := rfl
theorem i_115_48 : ins 115 48 = some (.ireturn, 49, 0, 0, 0, 0) := rfl
theorem i_115_49 : ins 115 49 = some (.aload_n 0, 50, 0, 0, 0, 0) := rfl
theorem i_115_50 : ins 115 50 = some (.getfield 19, 53, 7, 4, 0, 0) := rfl
theorem i_115_53 : ins 115 53 = some (.ireturn, 54, 0, 0, 0, 0) := rfl
theorem i_115_54 : ins 115 54 = some (.aload_n 0, 55, 0, 0, 0, 0) := rfl
theorem i_115_55 : ins 115 55 = some (.getfield 25, 58, 7, 6, 0, 0) := rfl
theorem i_115_58 : ins 115 58 = some (.ireturn, 59, 0, 0, 0, 0) := rfl
theorem i_115_59 : ins 115 59 = some (.iconst 1, 60, 0, 0, 0, 1) := rfl
theorem i_115_60 : ins 115 60 = some (.ireturn, 61, 0, 0, 0, 0) := rfl
theorem i_115_61 : ins 115 61 = some (.aload_n 0, 62, 0, 0, 0, 0) := rfl
theorem i_115_62 : ins 115 62 = some (.getfield 16, 65, 7, 3, 0, 0) := rfl
theorem i_115_65 : ins 115 65 = some (.ireturn, 66, 0, 0, 0, 0) := rfl
theorem tg_115_6 {x : Int32} (h0 : ¬ x = 4) (h1 : ¬ x = 5) (h2 : ¬ x = 6) (h3 : ¬ x = 7) (h4 : ¬ x = 8) (h5 : ¬ x = 9) : tgtOk 6 (.tableswitch 55 4 9 #[43, 55, 38, 48, 53, 53]) x 61 = true := tgd (by have e0 : x.toInt ≠ 4 := fun e => h0 (Int32.toInt_inj.mp e); have e1 : x.toInt ≠ 5 := fun e => h1 (Int32.toInt_inj.mp e); have e2 : x.toInt ≠ 6 := fun e => h2 (Int32.toInt_inj.mp e); have e3 : x.toInt ≠ 7 := fun e => h3 (Int32.toInt_inj.mp e); have e4 : x.toInt ≠ 8 := fun e => h4 (Int32.toInt_inj.mp e); have e5 : x.toInt ≠ 9 := fun e => h5 (Int32.toInt_inj.mp e); omega) (by decide)
theorem S115_0 {Q : Ou → Prop} {M : Mem} {κ : Kp} (hκ : Rd κ) {k : Nat} (hk : k < 60) 
    (k1 : (M 152 k) = 4 → Q (.inl (some (.int (M 134 4))), M, κ))
    (k2 : ¬ ((M 152 k) = 4) → (M 152 k) = 5 → Q (.inl (some (.int (M 134 3))), M, κ))
    (k3 : ¬ ((M 152 k) = 4) → ¬ ((M 152 k) = 5) → (M 152 k) = 6 → Q (.inl (some (.int (M 134 5))), M, κ))
    (k4 : ¬ ((M 152 k) = 4) → ¬ ((M 152 k) = 5) → ¬ ((M 152 k) = 6) → (M 152 k) = 7 → Q (.inl (some (.int (M 134 6))), M, κ))
    (k5 : ¬ ((M 152 k) = 4) → ¬ ((M 152 k) = 5) → ¬ ((M 152 k) = 6) → ¬ ((M 152 k) = 7) → (M 152 k) = 8 → Q (.inl (some (.int 1)), M, κ))
    (k6 : ¬ ((M 152 k) = 4) → ¬ ((M 152 k) = 5) → ¬ ((M 152 k) = 6) → ¬ ((M 152 k) = 7) → ¬ ((M 152 k) = 8) → (M 152 k) = 9 → Q (.inl (some (.int 1)), M, κ))
    (k7 : ¬ ((M 152 k) = 4) → ¬ ((M 152 k) = 5) → ¬ ((M 152 k) = 6) → ¬ ((M 152 k) = 7) → ¬ ((M 152 k) = 8) → ¬ ((M 152 k) = 9) → Q (.inl (some (.int (M 134 3))), M, κ))
    : RT 115 (0, [.ref 134, .int (nI k)], [], M, κ) Q := by
  refine w_load i_115_0 rfl rfl ?_
  refine w_getR 152 i_115_1 hκ (⟨rfl, by decide⟩ : isOb 134 7) rfl rfl ?_
  refine w_load i_115_4 rfl rfl ?_
  refine w_ialdN (e := k) (v := (M 152 k)) i_115_5 hκ (⟨rfl, rfl, by decide⟩ : isAr 152 60) (by omega) (by decide) (rfl) ?_
  by_cases h1 : (M 152 k) = 4
  · refine w_table 49 i_115_6 (by rw [h1]; rfl) ?_
    refine w_load i_115_49 rfl rfl ?_
    refine w_getI (v := (M 134 4)) i_115_50 hκ (⟨rfl, by decide⟩ : isOb 134 7) rfl (rfl) ?_
    exact w_iret i_115_53 (.inl rfl) (k1 h1)
  · have h2 := h1
    by_cases h3 : (M 152 k) = 5
    · refine w_table 61 i_115_6 (by rw [h3]; rfl) ?_
      refine w_load i_115_61 rfl rfl ?_
      refine w_getI (v := (M 134 3)) i_115_62 hκ (⟨rfl, by decide⟩ : isOb 134 7) rfl (rfl) ?_
      exact w_iret i_115_65 (.inl rfl) (k2 h2 h3)
    · have h4 := h3
      by_cases h5 : (M 152 k) = 6
      · refine w_table 44 i_115_6 (by rw [h5]; rfl) ?_
        refine w_load i_115_44 rfl rfl ?_
        refine w_getI (v := (M 134 5)) i_115_45 hκ (⟨rfl, by decide⟩ : isOb 134 7) rfl (rfl) ?_
        exact w_iret i_115_48 (.inl rfl) (k3 h2 h4 h5)
      · have h6 := h5
        by_cases h7 : (M 152 k) = 7
        · refine w_table 54 i_115_6 (by rw [h7]; rfl) ?_
          refine w_load i_115_54 rfl rfl ?_
          refine w_getI (v := (M 134 6)) i_115_55 hκ (⟨rfl, by decide⟩ : isOb 134 7) rfl (rfl) ?_
          exact w_iret i_115_58 (.inl rfl) (k4 h2 h4 h6 h7)
        · have h8 := h7
          by_cases h9 : (M 152 k) = 8
          · refine w_table 59 i_115_6 (by rw [h9]; rfl) ?_
            refine w_push i_115_59 rfl ?_
            exact w_iret i_115_60 (.inl rfl) (k5 h2 h4 h6 h8 h9)
          · have h10 := h9
            by_cases h11 : (M 152 k) = 9
            · refine w_table 59 i_115_6 (by rw [h11]; rfl) ?_
              refine w_push i_115_59 rfl ?_
              exact w_iret i_115_60 (.inl rfl) (k6 h2 h4 h6 h8 h10 h11)
            · have h12 := h11
              refine w_table 61 i_115_6 (tg_115_6 h2 h4 h6 h8 h10 h12) ?_
              refine w_load i_115_61 rfl rfl ?_
              refine w_getI (v := (M 134 3)) i_115_62 hκ (⟨rfl, by decide⟩ : isOb 134 7) rfl (rfl) ?_
              exact w_iret i_115_65 (.inl rfl) (k7 h2 h4 h6 h8 h10 h12)
theorem c115 (hκ : Rd κ) {k : Nat} (hk : k < 60) {c : Int32} {pl : Int32} {mu : Int32} {di : Int32} {lo : Int32} (e0 : M 152 k = c) (e1 : M 134 3 = pl) (e2 : M 134 4 = mu) (e3 : M 134 5 = di) (e4 : M 134 6 = lo) : Run 115 (0, entL 115 [.ref 134, .int (nI k)], [], M, κ) (.inl (some (.int (latF pl mu di lo c))), M, κ) := by
  subst e0 e1 e2 e3 e4
  exact RT_run (S115_0 hκ hk (by intros; simp only [latF]; simp [*]) (by intros; simp only [latF]; simp [*]) (by intros; simp only [latF]; simp [*]) (by intros; simp only [latF]; simp [*]) (by intros; simp only [latF]; simp [*]) (by intros; simp only [latF]; simp [*]) (by intros; simp only [latF]; simp [*]))
theorem i_9_0 : ins 9 0 = some (.aload_n 0, 1, 0, 0, 0, 0) := rfl
theorem i_9_1 : ins 9 1 = some (.getfield 31, 4, 0, 6, 0, 0) := rfl
theorem i_9_4 : ins 9 4 = some (.iload_n 1, 5, 1, 0, 0, 0) := rfl
theorem i_9_5 : ins 9 5 = some (.iaload, 6, 0, 0, 0, 0) := rfl
theorem i_9_6 : ins 9 6 = some (.bipush 8, 8, 0, 0, 0, 8) := rfl
theorem i_9_8 : ins 9 8 = some (.if_icmp .ge 12, 11, 20, 0, 0, 0) := rfl
theorem i_9_11 : ins 9 11 = some (.aload_n 0, 12, 0, 0, 0, 0) := rfl
theorem i_9_12 : ins 9 12 = some (.getfield 35, 15, 0, 7, 0, 0) := rfl
theorem i_9_15 : ins 9 15 = some (.iload_n 1, 16, 1, 0, 0, 0) := rfl
theorem i_9_16 : ins 9 16 = some (.iaload, 17, 0, 0, 0, 0) := rfl
theorem i_9_17 : ins 9 17 = some (.goto 4, 20, 21, 0, 0, 0) := rfl
theorem i_9_20 : ins 9 20 = some (.iconst (-1), 21, 0, 0, 0, (-1)) := rfl
theorem i_9_21 : ins 9 21 = some (.ireturn, 22, 0, 0, 0, 0) := rfl
theorem S9_0 {Q : Ou → Prop} {M : Mem} {κ : Kp} (hκ : Rd κ) {b : Nat} (hb : isBl b) {k : Nat} (hk : k < 10) 
    (k1 : Q (.inl (some (.int (if (M (b + 1) k) < 8 then (M (b + 2) k) else (-1)))), M, κ))
    : RT 9 (0, [.ref b, .int (nI k)], [], M, κ) Q := by
  refine w_load i_9_0 rfl rfl ?_
  refine w_getR (b + 1) i_9_1 hκ (bl_ob hb) rfl rfl ?_
  refine w_load i_9_4 rfl rfl ?_
  refine w_ialdN (e := k) (v := (M (b + 1) k)) i_9_5 hκ (bl_ar hb 1 (by decide)) (by omega) (by decide) (rfl) ?_
  refine w_push i_9_6 rfl ?_
  have K1 : RT 9 (21, [.ref b, .int (nI k)], [.int (if (M (b + 1) k) < 8 then (M (b + 2) k) else (-1))], M, κ) Q := by
    exact w_iret i_9_21 (.inl rfl) (k1)
  refine w_if2n ((M (b + 1) k) < 8) i_9_8 cI_ge ?_ ?_
  · intro h2
    refine w_load i_9_11 rfl rfl ?_
    refine w_getR (b + 2) i_9_12 hκ (bl_ob hb) rfl rfl ?_
    refine w_load i_9_15 rfl rfl ?_
    refine w_ialdN (e := k) (v := (M (b + 2) k)) i_9_16 hκ (bl_ar hb 2 (by decide)) (by omega) (by decide) (rfl) ?_
    refine w_goto i_9_17 ?_
    exact (by first | exact (K1) | (have K9 := K1; simp only [↓if_pos h2] at K9 ⊢; exact (K9)))
  · intro h3
    refine w_push i_9_20 rfl ?_
    exact (by first | exact (K1) | (have K9 := K1; simp only [↓if_neg h3] at K9 ⊢; exact (K9)))
theorem c9 (hκ : Rd κ) {b : Nat} (hb : isBl b) {k : Nat} (hk : k < 10) {c : Int32} {d : Int32} (e0 : M (b + 1) k = c) (e1 : M (b + 2) k = d) : Run 9 (0, entL 9 [.ref b, .int (nI k)], [], M, κ) (.inl (some (.int (wrF c d))), M, κ) := by
  subst e0 e1
  exact RT_run (S9_0 hκ hb hk rfl)
theorem i_10_0 : ins 10 0 = some (.aload_n 0, 1, 0, 0, 0, 0) := rfl
theorem i_10_1 : ins 10 1 = some (.getfield 47, 4, 0, 11, 0, 0) := rfl
theorem i_10_4 : ins 10 4 = some (.iload_n 1, 5, 1, 0, 0, 0) := rfl
theorem i_10_5 : ins 10 5 = some (.iaload, 6, 0, 0, 0, 0) := rfl
theorem i_10_6 : ins 10 6 = some (.invokestatic 62, 9, 165, 1, 1, 0) := rfl
theorem i_10_9 : ins 10 9 = some (.iconst 1, 10, 0, 0, 0, 1) := rfl
theorem i_10_10 : ins 10 10 = some (.isub, 11, 0, 0, 0, 0) := rfl
theorem i_10_11 : ins 10 11 = some (.ireturn, 12, 0, 0, 0, 0) := rfl
theorem S10_0 {Q : Ou → Prop} {M : Mem} {κ : Kp} (hκ : Rd κ) {b : Nat} (hb : isBl b) {k : Nat} (hk : k < 10) 
    (k1 : Q (.inl (some (.int ((ab (M (b + 6) k)) - 1))), M, κ))
    : RT 10 (0, [.ref b, .int (nI k)], [], M, κ) Q := by
  refine w_load i_10_0 rfl rfl ?_
  refine w_getR (b + 6) i_10_1 hκ (bl_ob hb) rfl rfl ?_
  refine w_load i_10_4 rfl rfl ?_
  refine w_ialdN (e := k) (v := (M (b + 6) k)) i_10_5 hκ (bl_ar hb 6 (by decide)) (by omega) (by decide) (rfl) ?_
  refine w_mabs i_10_6 rfl (by decide) (Nat.le_of_ble_eq_true rfl) ?_
  refine w_push i_10_9 rfl ?_
  refine w_bin (w := ((ab (M (b + 6) k)) - 1)) i_10_10 rfl rfl ?_
  exact w_iret i_10_11 (.inl rfl) (k1)
theorem c10 (hκ : Rd κ) {b : Nat} (hb : isBl b) {k : Nat} (hk : k < 10) {g : Int32} (e0 : M (b + 6) k = g) : Run 10 (0, entL 10 [.ref b, .int (nI k)], [], M, κ) (.inl (some (.int (ab g - 1))), M, κ) := by
  subst e0
  exact RT_run (S10_0 hκ hb hk rfl)
theorem i_11_0 : ins 11 0 = some (.iload_n 2, 1, 2, 0, 0, 0) := rfl
theorem i_11_1 : ins 11 1 = some (.iconst (-1), 2, 0, 0, 0, (-1)) := rfl
theorem i_11_2 : ins 11 2 = some (.if_icmp .ne 5, 5, 7, 0, 0, 0) := rfl
theorem i_11_5 : ins 11 5 = some (.iconst 0, 6, 0, 0, 0, 0) := rfl
theorem i_11_6 : ins 11 6 = some (.ireturn, 7, 0, 0, 0, 0) := rfl
theorem i_11_7 : ins 11 7 = some (.aload_n 0, 8, 0, 0, 0, 0) := rfl
theorem i_11_8 : ins 11 8 = some (.getfield 31, 11, 0, 6, 0, 0) := rfl
theorem i_11_11 : ins 11 11 = some (.iload_n 1, 12, 1, 0, 0, 0) := rfl
theorem i_11_12 : ins 11 12 = some (.iaload, 13, 0, 0, 0, 0) := rfl
theorem i_11_13 : ins 11 13 = some (.ifCond .eq 7, 16, 20, 0, 0, 0) := rfl
theorem i_11_16 : ins 11 16 = some (.iconst 1, 17, 0, 0, 0, 1) := rfl
theorem i_11_17 : ins 11 17 = some (.goto 4, 20, 21, 0, 0, 0) := rfl
theorem i_11_20 : ins 11 20 = some (.iconst 0, 21, 0, 0, 0, 0) := rfl
theorem i_11_21 : ins 11 21 = some (.istore_n 3, 22, 3, 0, 0, 0) := rfl
theorem i_11_22 : ins 11 22 = some (.aload_n 0, 23, 0, 0, 0, 0) := rfl
theorem i_11_23 : ins 11 23 = some (.getfield 31, 26, 0, 6, 0, 0) := rfl
theorem i_11_26 : ins 11 26 = some (.iload_n 1, 27, 1, 0, 0, 0) := rfl
theorem i_11_27 : ins 11 27 = some (.iaload, 28, 0, 0, 0, 0) := rfl
theorem i_11_28 : ins 11 28 = some (.iconst 2, 29, 0, 0, 0, 2) := rfl
theorem i_11_29 : ins 11 29 = some (.if_icmp .lt 14, 32, 43, 0, 0, 0) := rfl
theorem i_11_32 : ins 11 32 = some (.aload_n 0, 33, 0, 0, 0, 0) := rfl
theorem i_11_33 : ins 11 33 = some (.getfield 31, 36, 0, 6, 0, 0) := rfl
theorem i_11_36 : ins 11 36 = some (.iload_n 1, 37, 1, 0, 0, 0) := rfl
theorem i_11_37 : ins 11 37 = some (.iaload, 38, 0, 0, 0, 0) := rfl
theorem i_11_38 : ins 11 38 = some (.bipush 6, 40, 0, 0, 0, 6) := rfl
theorem i_11_40 : ins 11 40 = some (.if_icmp .le 14, 43, 54, 0, 0, 0) := rfl
theorem i_11_43 : ins 11 43 = some (.aload_n 0, 44, 0, 0, 0, 0) := rfl
theorem i_11_44 : ins 11 44 = some (.getfield 31, 47, 0, 6, 0, 0) := rfl
theorem i_11_47 : ins 11 47 = some (.iload_n 1, 48, 1, 0, 0, 0) := rfl
theorem i_11_48 : ins 11 48 = some (.iaload, 49, 0, 0, 0, 0) := rfl
theorem i_11_49 : ins 11 49 = some (.bipush 8, 51, 0, 0, 0, 8) := rfl
theorem i_11_51 : ins 11 51 = some (.if_icmp .ne 7, 54, 58, 0, 0, 0) := rfl
theorem i_11_54 : ins 11 54 = some (.iconst 1, 55, 0, 0, 0, 1) := rfl
theorem i_11_55 : ins 11 55 = some (.goto 4, 58, 59, 0, 0, 0) := rfl
theorem i_11_58 : ins 11 58 = some (.iconst 0, 59, 0, 0, 0, 0) := rfl
theorem i_11_59 : ins 11 59 = some (.istore 4, 61, 4, 0, 0, 0) := rfl
theorem i_11_61 : ins 11 61 = some (.iload_n 3, 62, 3, 0, 0, 0) := rfl
theorem i_11_62 : ins 11 62 = some (.ifCond .eq 13, 65, 75, 0, 0, 0) := rfl
theorem i_11_65 : ins 11 65 = some (.aload_n 0, 66, 0, 0, 0, 0) := rfl
theorem i_11_66 : ins 11 66 = some (.getfield 38, 69, 0, 8, 0, 0) := rfl
theorem i_11_69 : ins 11 69 = some (.iload_n 1, 70, 1, 0, 0, 0) := rfl
theorem i_11_70 : ins 11 70 = some (.iaload, 71, 0, 0, 0, 0) := rfl
theorem i_11_71 : ins 11 71 = some (.iload_n 2, 72, 2, 0, 0, 0) := rfl
theorem i_11_72 : ins 11 72 = some (.if_icmp .eq 27, 75, 99, 0, 0, 0) := rfl
theorem i_11_75 : ins 11 75 = some (.iload 4, 77, 4, 0, 0, 0) := rfl
theorem i_11_77 : ins 11 77 = some (.ifCond .eq 13, 80, 90, 0, 0, 0) := rfl
theorem i_11_80 : ins 11 80 = some (.aload_n 0, 81, 0, 0, 0, 0) := rfl
theorem i_11_81 : ins 11 81 = some (.getfield 41, 84, 0, 9, 0, 0) := rfl
theorem i_11_84 : ins 11 84 = some (.iload_n 1, 85, 1, 0, 0, 0) := rfl
theorem i_11_85 : ins 11 85 = some (.iaload, 86, 0, 0, 0, 0) := rfl
theorem i_11_86 : ins 11 86 = some (.iload_n 2, 87, 2, 0, 0, 0) := rfl
theorem i_11_87 : ins 11 87 = some (.if_icmp .eq 12, 90, 99, 0, 0, 0) := rfl
theorem i_11_90 : ins 11 90 = some (.aload_n 0, 91, 0, 0, 0, 0) := rfl
theorem i_11_91 : ins 11 91 = some (.iload_n 1, 92, 1, 0, 0, 0) := rfl
theorem i_11_92 : ins 11 92 = some (.invokevirtual 67, 95, 10, 0, 2, 0) := rfl
theorem i_11_95 : ins 11 95 = some (.iload_n 2, 96, 2, 0, 0, 0) := rfl
theorem i_11_96 : ins 11 96 = some (.if_icmp .ne 7, 99, 103, 0, 0, 0) := rfl
theorem i_11_99 : ins 11 99 = some (.iconst 1, 100, 0, 0, 0, 1) := rfl
theorem i_11_100 : ins 11 100 = some (.goto 4, 103, 104, 0, 0, 0) := rfl
theorem i_11_103 : ins 11 103 = some (.iconst 0, 104, 0, 0, 0, 0) := rfl
theorem i_11_104 : ins 11 104 = some (.ireturn, 105, 0, 0, 0, 0) := rfl
theorem S11_0 {Q : Ou → Prop} {M : Mem} {κ : Kp} (hκ : Rd κ) {b : Nat} (hb : isBl b) {k : Nat} (hk : k < 10) {v : Int32}
    (k1 : v = (-1) → Q (.inl (some (.int 0)), M, κ))
    (k2 : ¬ (v = (-1)) → Q (.inl (some (.int (bI (if (if (M (b + 1) k) = 0 then false else true) = true then (if (M (b + 3) k) = v then true else (if (if (M (b + 1) k) < 2 then (if (M (b + 1) k) = 8 then true else false) else (if 6 < (M (b + 1) k) then (if (M (b + 1) k) = 8 then true else false) else true)) = true then (if (M (b + 4) k) = v then true else (if (ab (M (b + 6) k) - 1) = v then true else false)) else (if (ab (M (b + 6) k) - 1) = v then true else false))) else (if (if (M (b + 1) k) < 2 then (if (M (b + 1) k) = 8 then true else false) else (if 6 < (M (b + 1) k) then (if (M (b + 1) k) = 8 then true else false) else true)) = true then (if (M (b + 4) k) = v then true else (if (ab (M (b + 6) k) - 1) = v then true else false)) else (if (ab (M (b + 6) k) - 1) = v then true else false)))))), M, κ))
    : RT 11 (0, [.ref b, .int (nI k), .int v, UU, UU], [], M, κ) Q := by
  refine w_load i_11_0 rfl rfl ?_
  refine w_push i_11_1 rfl ?_
  refine w_if2n (v = (-1)) i_11_2 cI_ne ?_ ?_
  · intro h1
    refine w_push i_11_5 rfl ?_
    exact w_iret i_11_6 (.inr ⟨rfl, rfl⟩) (k1 h1)
  · intro h2
    refine w_load i_11_7 rfl rfl ?_
    refine w_getR (b + 1) i_11_8 hκ (bl_ob hb) rfl rfl ?_
    refine w_load i_11_11 rfl rfl ?_
    refine w_ialdN (e := k) (v := (M (b + 1) k)) i_11_12 hκ (bl_ar hb 1 (by decide)) (by omega) (by decide) (rfl) ?_
    have K3 : RT 11 (21, [.ref b, .int (nI k), .int v, UU, UU], [.int (bI (if (M (b + 1) k) = 0 then false else true))], M, κ) Q := by
      refine w_store (l1 := [.ref b, .int (nI k), .int v, .int (bI (if (M (b + 1) k) = 0 then false else true)), UU]) i_11_21 rfl (Nat.le_of_ble_eq_true rfl) rfl ?_
      refine w_load i_11_22 rfl rfl ?_
      refine w_getR (b + 1) i_11_23 hκ (bl_ob hb) rfl rfl ?_
      refine w_load i_11_26 rfl rfl ?_
      refine w_ialdN (e := k) (v := (M (b + 1) k)) i_11_27 hκ (bl_ar hb 1 (by decide)) (by omega) (by decide) (rfl) ?_
      refine w_push i_11_28 rfl ?_
      have K4 : RT 11 (59, [.ref b, .int (nI k), .int v, .int (bI (if (M (b + 1) k) = 0 then false else true)), UU], [.int (bI (if (M (b + 1) k) < 2 then (if (M (b + 1) k) = 8 then true else false) else (if 6 < (M (b + 1) k) then (if (M (b + 1) k) = 8 then true else false) else true)))], M, κ) Q := by
        refine w_store (l1 := [.ref b, .int (nI k), .int v, .int (bI (if (M (b + 1) k) = 0 then false else true)), .int (bI (if (M (b + 1) k) < 2 then (if (M (b + 1) k) = 8 then true else false) else (if 6 < (M (b + 1) k) then (if (M (b + 1) k) = 8 then true else false) else true)))]) i_11_59 rfl (Nat.le_of_ble_eq_true rfl) rfl ?_
        refine w_load i_11_61 rfl rfl ?_
        have K5 : RT 11 (104, [.ref b, .int (nI k), .int v, .int (bI (if (M (b + 1) k) = 0 then false else true)), .int (bI (if (M (b + 1) k) < 2 then (if (M (b + 1) k) = 8 then true else false) else (if 6 < (M (b + 1) k) then (if (M (b + 1) k) = 8 then true else false) else true)))], [.int (bI (if (if (M (b + 1) k) = 0 then false else true) = true then (if (M (b + 3) k) = v then true else (if (if (M (b + 1) k) < 2 then (if (M (b + 1) k) = 8 then true else false) else (if 6 < (M (b + 1) k) then (if (M (b + 1) k) = 8 then true else false) else true)) = true then (if (M (b + 4) k) = v then true else (if (ab (M (b + 6) k) - 1) = v then true else false)) else (if (ab (M (b + 6) k) - 1) = v then true else false))) else (if (if (M (b + 1) k) < 2 then (if (M (b + 1) k) = 8 then true else false) else (if 6 < (M (b + 1) k) then (if (M (b + 1) k) = 8 then true else false) else true)) = true then (if (M (b + 4) k) = v then true else (if (ab (M (b + 6) k) - 1) = v then true else false)) else (if (ab (M (b + 6) k) - 1) = v then true else false))))], M, κ) Q := by
          exact w_iret i_11_104 (.inr ⟨rfl, isB_bI _⟩) (k2 h2)
        refine w_if0n ((if (M (b + 1) k) = 0 then false else true) = true) i_11_62 cB_eq ?_ ?_
        · intro h6
          refine w_load i_11_65 rfl rfl ?_
          refine w_getR (b + 3) i_11_66 hκ (bl_ob hb) rfl rfl ?_
          refine w_load i_11_69 rfl rfl ?_
          refine w_ialdN (e := k) (v := (M (b + 3) k)) i_11_70 hκ (bl_ar hb 3 (by decide)) (by omega) (by decide) (rfl) ?_
          refine w_load i_11_71 rfl rfl ?_
          refine w_if2 ((M (b + 3) k) = v) i_11_72 cI_eq ?_ ?_
          · intro h7
            refine w_push i_11_99 rfl ?_
            refine w_goto i_11_100 ?_
            exact (by first | exact (K5) | (have K9 := K5; simp only [↓if_pos h6, ↓if_pos h7] at K9 ⊢; exact (K9)))
          · intro h8
            refine w_load i_11_75 rfl rfl ?_
            refine w_if0n ((if (M (b + 1) k) < 2 then (if (M (b + 1) k) = 8 then true else false) else (if 6 < (M (b + 1) k) then (if (M (b + 1) k) = 8 then true else false) else true)) = true) i_11_77 cB_eq ?_ ?_
            · intro h9
              refine w_load i_11_80 rfl rfl ?_
              refine w_getR (b + 4) i_11_81 hκ (bl_ob hb) rfl rfl ?_
              refine w_load i_11_84 rfl rfl ?_
              refine w_ialdN (e := k) (v := (M (b + 4) k)) i_11_85 hκ (bl_ar hb 4 (by decide)) (by omega) (by decide) (rfl) ?_
              refine w_load i_11_86 rfl rfl ?_
              refine w_if2 ((M (b + 4) k) = v) i_11_87 cI_eq ?_ ?_
              · intro h10
                refine w_push i_11_99 rfl ?_
                refine w_goto i_11_100 ?_
                exact (by first | exact (K5) | (have K9 := K5; simp only [↓if_pos h6, ↓if_neg h8, ↓if_pos h9, ↓if_pos h10] at K9 ⊢; exact (K9)))
              · intro h11
                refine w_load i_11_90 rfl rfl ?_
                refine w_load i_11_91 rfl rfl ?_
                refine w_callV (i := _) i_11_92 ⟨by decide, by decide, by decide, rfl⟩ hκ (bl_ob hb) (av := [.int (nI k)]) (rest := []) rfl rfl (Nat.le_of_ble_eq_true rfl) (v := some (.int (ab (M (b + 6) k) - 1))) (c10 hκ hb (by omega) (rfl)) ?_
                refine w_load i_11_95 rfl rfl ?_
                refine w_if2n ((ab (M (b + 6) k) - 1) = v) i_11_96 cI_ne ?_ ?_
                · intro h12
                  refine w_push i_11_99 rfl ?_
                  refine w_goto i_11_100 ?_
                  exact (by first | exact (K5) | (have K9 := K5; simp only [↓if_pos h6, ↓if_neg h8, ↓if_pos h9, ↓if_neg h11, ↓if_pos h12] at K9 ⊢; exact (K9)))
                · intro h13
                  refine w_push i_11_103 rfl ?_
                  exact (by first | exact (K5) | (have K9 := K5; simp only [↓if_pos h6, ↓if_neg h8, ↓if_pos h9, ↓if_neg h11, ↓if_neg h13] at K9 ⊢; exact (K9)))
            · intro h14
              refine w_load i_11_90 rfl rfl ?_
              refine w_load i_11_91 rfl rfl ?_
              refine w_callV (i := _) i_11_92 ⟨by decide, by decide, by decide, rfl⟩ hκ (bl_ob hb) (av := [.int (nI k)]) (rest := []) rfl rfl (Nat.le_of_ble_eq_true rfl) (v := some (.int (ab (M (b + 6) k) - 1))) (c10 hκ hb (by omega) (rfl)) ?_
              refine w_load i_11_95 rfl rfl ?_
              refine w_if2n ((ab (M (b + 6) k) - 1) = v) i_11_96 cI_ne ?_ ?_
              · intro h15
                refine w_push i_11_99 rfl ?_
                refine w_goto i_11_100 ?_
                exact (by first | exact (K5) | (have K9 := K5; simp only [↓if_pos h6, ↓if_neg h8, ↓if_neg h14, ↓if_pos h15] at K9 ⊢; exact (K9)))
              · intro h16
                refine w_push i_11_103 rfl ?_
                exact (by first | exact (K5) | (have K9 := K5; simp only [↓if_pos h6, ↓if_neg h8, ↓if_neg h14, ↓if_neg h16] at K9 ⊢; exact (K9)))
        · intro h17
          refine w_load i_11_75 rfl rfl ?_
          refine w_if0n ((if (M (b + 1) k) < 2 then (if (M (b + 1) k) = 8 then true else false) else (if 6 < (M (b + 1) k) then (if (M (b + 1) k) = 8 then true else false) else true)) = true) i_11_77 cB_eq ?_ ?_
          · intro h18
            refine w_load i_11_80 rfl rfl ?_
            refine w_getR (b + 4) i_11_81 hκ (bl_ob hb) rfl rfl ?_
            refine w_load i_11_84 rfl rfl ?_
            refine w_ialdN (e := k) (v := (M (b + 4) k)) i_11_85 hκ (bl_ar hb 4 (by decide)) (by omega) (by decide) (rfl) ?_
            refine w_load i_11_86 rfl rfl ?_
            refine w_if2 ((M (b + 4) k) = v) i_11_87 cI_eq ?_ ?_
            · intro h19
              refine w_push i_11_99 rfl ?_
              refine w_goto i_11_100 ?_
              exact (by first | exact (K5) | (have K9 := K5; simp only [↓if_neg h17, ↓if_pos h18, ↓if_pos h19] at K9 ⊢; exact (K9)))
            · intro h20
              refine w_load i_11_90 rfl rfl ?_
              refine w_load i_11_91 rfl rfl ?_
              refine w_callV (i := _) i_11_92 ⟨by decide, by decide, by decide, rfl⟩ hκ (bl_ob hb) (av := [.int (nI k)]) (rest := []) rfl rfl (Nat.le_of_ble_eq_true rfl) (v := some (.int (ab (M (b + 6) k) - 1))) (c10 hκ hb (by omega) (rfl)) ?_
              refine w_load i_11_95 rfl rfl ?_
              refine w_if2n ((ab (M (b + 6) k) - 1) = v) i_11_96 cI_ne ?_ ?_
              · intro h21
                refine w_push i_11_99 rfl ?_
                refine w_goto i_11_100 ?_
                exact (by first | exact (K5) | (have K9 := K5; simp only [↓if_neg h17, ↓if_pos h18, ↓if_neg h20, ↓if_pos h21] at K9 ⊢; exact (K9)))
              · intro h22
                refine w_push i_11_103 rfl ?_
                exact (by first | exact (K5) | (have K9 := K5; simp only [↓if_neg h17, ↓if_pos h18, ↓if_neg h20, ↓if_neg h22] at K9 ⊢; exact (K9)))
          · intro h23
            refine w_load i_11_90 rfl rfl ?_
            refine w_load i_11_91 rfl rfl ?_
            refine w_callV (i := _) i_11_92 ⟨by decide, by decide, by decide, rfl⟩ hκ (bl_ob hb) (av := [.int (nI k)]) (rest := []) rfl rfl (Nat.le_of_ble_eq_true rfl) (v := some (.int (ab (M (b + 6) k) - 1))) (c10 hκ hb (by omega) (rfl)) ?_
            refine w_load i_11_95 rfl rfl ?_
            refine w_if2n ((ab (M (b + 6) k) - 1) = v) i_11_96 cI_ne ?_ ?_
            · intro h24
              refine w_push i_11_99 rfl ?_
              refine w_goto i_11_100 ?_
              exact (by first | exact (K5) | (have K9 := K5; simp only [↓if_neg h17, ↓if_neg h23, ↓if_pos h24] at K9 ⊢; exact (K9)))
            · intro h25
              refine w_push i_11_103 rfl ?_
              exact (by first | exact (K5) | (have K9 := K5; simp only [↓if_neg h17, ↓if_neg h23, ↓if_neg h25] at K9 ⊢; exact (K9)))
      refine w_if2 ((M (b + 1) k) < 2) i_11_29 cI_lt ?_ ?_
      · intro h26
        refine w_load i_11_43 rfl rfl ?_
        refine w_getR (b + 1) i_11_44 hκ (bl_ob hb) rfl rfl ?_
        refine w_load i_11_47 rfl rfl ?_
        refine w_ialdN (e := k) (v := (M (b + 1) k)) i_11_48 hκ (bl_ar hb 1 (by decide)) (by omega) (by decide) (rfl) ?_
        refine w_push i_11_49 rfl ?_
        refine w_if2n ((M (b + 1) k) = 8) i_11_51 cI_ne ?_ ?_
        · intro h27
          refine w_push i_11_54 rfl ?_
          refine w_goto i_11_55 ?_
          exact (by first | exact (K4) | (have K9 := K4; simp only [↓if_pos h26, ↓if_pos h27] at K9 ⊢; exact (K9)))
        · intro h28
          refine w_push i_11_58 rfl ?_
          exact (by first | exact (K4) | (have K9 := K4; simp only [↓if_pos h26, ↓if_neg h28] at K9 ⊢; exact (K9)))
      · intro h29
        refine w_load i_11_32 rfl rfl ?_
        refine w_getR (b + 1) i_11_33 hκ (bl_ob hb) rfl rfl ?_
        refine w_load i_11_36 rfl rfl ?_
        refine w_ialdN (e := k) (v := (M (b + 1) k)) i_11_37 hκ (bl_ar hb 1 (by decide)) (by omega) (by decide) (rfl) ?_
        refine w_push i_11_38 rfl ?_
        refine w_if2n (6 < (M (b + 1) k)) i_11_40 cI_le ?_ ?_
        · intro h30
          refine w_load i_11_43 rfl rfl ?_
          refine w_getR (b + 1) i_11_44 hκ (bl_ob hb) rfl rfl ?_
          refine w_load i_11_47 rfl rfl ?_
          refine w_ialdN (e := k) (v := (M (b + 1) k)) i_11_48 hκ (bl_ar hb 1 (by decide)) (by omega) (by decide) (rfl) ?_
          refine w_push i_11_49 rfl ?_
          refine w_if2n ((M (b + 1) k) = 8) i_11_51 cI_ne ?_ ?_
          · intro h31
            refine w_push i_11_54 rfl ?_
            refine w_goto i_11_55 ?_
            exact (by first | exact (K4) | (have K9 := K4; simp only [↓if_neg h29, ↓if_pos h30, ↓if_pos h31] at K9 ⊢; exact (K9)))
          · intro h32
            refine w_push i_11_58 rfl ?_
            exact (by first | exact (K4) | (have K9 := K4; simp only [↓if_neg h29, ↓if_pos h30, ↓if_neg h32] at K9 ⊢; exact (K9)))
        · intro h33
          refine w_push i_11_54 rfl ?_
          refine w_goto i_11_55 ?_
          exact (by first | exact (K4) | (have K9 := K4; simp only [↓if_neg h29, ↓if_neg h33] at K9 ⊢; exact (K9)))
    refine w_if0 ((M (b + 1) k) = 0) i_11_13 cI0_eq ?_ ?_
    · intro h34
      refine w_push i_11_20 rfl ?_
      exact (by first | exact (K3) | (have K9 := K3; simp only [↓if_pos h34] at K9 ⊢; exact (K9)))
    · intro h35
      refine w_push i_11_16 rfl ?_
      refine w_goto i_11_17 ?_
      exact (by first | exact (K3) | (have K9 := K3; simp only [↓if_neg h35] at K9 ⊢; exact (K9)))
theorem c11 (hκ : Rd κ) {b : Nat} (hb : isBl b) {k : Nat} (hk : k < 10) {c : Int32} {a : Int32} {d : Int32} {g : Int32} {v : Int32} (e0 : M (b + 1) k = c) (e1 : M (b + 3) k = a) (e2 : M (b + 4) k = d) (e3 : M (b + 6) k = g) : Run 11 (0, entL 11 [.ref b, .int (nI k), .int v], [], M, κ) (.inl (some (.int (bI (rdF c a d g v)))), M, κ) := by
  subst e0 e1 e2 e3
  exact RT_run (S11_0 hκ hb hk (by intro h; simp only [rdF]; simp [h, bI]) (by intro h; simp only [rdF]; congr 5; grind))
theorem i_12_0 : ins 12 0 = some (.aload_n 0, 1, 0, 0, 0, 0) := rfl
theorem i_12_1 : ins 12 1 = some (.getfield 31, 4, 0, 6, 0, 0) := rfl
theorem i_12_4 : ins 12 4 = some (.iload_n 1, 5, 1, 0, 0, 0) := rfl
theorem i_12_5 : ins 12 5 = some (.iaload, 6, 0, 0, 0, 0) := rfl
theorem i_12_6 : ins 12 6 = some (.bipush 7, 8, 0, 0, 0, 7) := rfl
theorem i_12_8 : ins 12 8 = some (.if_icmp .eq 14, 11, 22, 0, 0, 0) := rfl
theorem i_12_11 : ins 12 11 = some (.aload_n 0, 12, 0, 0, 0, 0) := rfl
theorem i_12_12 : ins 12 12 = some (.getfield 31, 15, 0, 6, 0, 0) := rfl
theorem i_12_15 : ins 12 15 = some (.iload_n 1, 16, 1, 0, 0, 0) := rfl
theorem i_12_16 : ins 12 16 = some (.iaload, 17, 0, 0, 0, 0) := rfl
theorem i_12_17 : ins 12 17 = some (.bipush 8, 19, 0, 0, 0, 8) := rfl
theorem i_12_19 : ins 12 19 = some (.if_icmp .ne 7, 22, 26, 0, 0, 0) := rfl
theorem i_12_22 : ins 12 22 = some (.iconst 1, 23, 0, 0, 0, 1) := rfl
theorem i_12_23 : ins 12 23 = some (.goto 4, 26, 27, 0, 0, 0) := rfl
theorem i_12_26 : ins 12 26 = some (.iconst 0, 27, 0, 0, 0, 0) := rfl
theorem i_12_27 : ins 12 27 = some (.ireturn, 28, 0, 0, 0, 0) := rfl
theorem S12_0 {Q : Ou → Prop} {M : Mem} {κ : Kp} (hκ : Rd κ) {b : Nat} (hb : isBl b) {k : Nat} (hk : k < 10) 
    (k1 : Q (.inl (some (.int (bI (if (M (b + 1) k) = 7 then true else (if (M (b + 1) k) = 8 then true else false))))), M, κ))
    : RT 12 (0, [.ref b, .int (nI k)], [], M, κ) Q := by
  refine w_load i_12_0 rfl rfl ?_
  refine w_getR (b + 1) i_12_1 hκ (bl_ob hb) rfl rfl ?_
  refine w_load i_12_4 rfl rfl ?_
  refine w_ialdN (e := k) (v := (M (b + 1) k)) i_12_5 hκ (bl_ar hb 1 (by decide)) (by omega) (by decide) (rfl) ?_
  refine w_push i_12_6 rfl ?_
  have K1 : RT 12 (27, [.ref b, .int (nI k)], [.int (bI (if (M (b + 1) k) = 7 then true else (if (M (b + 1) k) = 8 then true else false)))], M, κ) Q := by
    exact w_iret i_12_27 (.inr ⟨rfl, isB_bI _⟩) (k1)
  refine w_if2 ((M (b + 1) k) = 7) i_12_8 cI_eq ?_ ?_
  · intro h2
    refine w_push i_12_22 rfl ?_
    refine w_goto i_12_23 ?_
    exact (by first | exact (K1) | (have K9 := K1; simp only [↓if_pos h2] at K9 ⊢; exact (K9)))
  · intro h3
    refine w_load i_12_11 rfl rfl ?_
    refine w_getR (b + 1) i_12_12 hκ (bl_ob hb) rfl rfl ?_
    refine w_load i_12_15 rfl rfl ?_
    refine w_ialdN (e := k) (v := (M (b + 1) k)) i_12_16 hκ (bl_ar hb 1 (by decide)) (by omega) (by decide) (rfl) ?_
    refine w_push i_12_17 rfl ?_
    refine w_if2n ((M (b + 1) k) = 8) i_12_19 cI_ne ?_ ?_
    · intro h4
      refine w_push i_12_22 rfl ?_
      refine w_goto i_12_23 ?_
      exact (by first | exact (K1) | (have K9 := K1; simp only [↓if_neg h3, ↓if_pos h4] at K9 ⊢; exact (K9)))
    · intro h5
      refine w_push i_12_26 rfl ?_
      exact (by first | exact (K1) | (have K9 := K1; simp only [↓if_neg h3, ↓if_neg h5] at K9 ⊢; exact (K9)))
theorem c12 (hκ : Rd κ) {b : Nat} (hb : isBl b) {k : Nat} (hk : k < 10) {c : Int32} (e0 : M (b + 1) k = c) : Run 12 (0, entL 12 [.ref b, .int (nI k)], [], M, κ) (.inl (some (.int (bI (memF c)))), M, κ) := by
  subst e0
  exact RT_run (S12_0 hκ hb hk (by simp only [memF]; congr 5; grind))
theorem i_13_0 : ins 13 0 = some (.aload_n 0, 1, 0, 0, 0, 0) := rfl
theorem i_13_1 : ins 13 1 = some (.getfield 31, 4, 0, 6, 0, 0) := rfl
theorem i_13_4 : ins 13 4 = some (.iload_n 1, 5, 1, 0, 0, 0) := rfl
theorem i_13_5 : ins 13 5 = some (.iaload, 6, 0, 0, 0, 0) := rfl
theorem i_13_6 : ins 13 6 = some (.iconst 1, 7, 0, 0, 0, 1) := rfl
theorem i_13_7 : ins 13 7 = some (.if_icmp .ne 31, 10, 38, 0, 0, 0) := rfl
theorem i_13_10 : ins 13 10 = some (.aload_n 0, 11, 0, 0, 0, 0) := rfl
theorem i_13_11 : ins 13 11 = some (.getfield 35, 14, 0, 7, 0, 0) := rfl
theorem i_13_14 : ins 13 14 = some (.iload_n 1, 15, 1, 0, 0, 0) := rfl
theorem i_13_15 : ins 13 15 = some (.iaload, 16, 0, 0, 0, 0) := rfl
theorem i_13_16 : ins 13 16 = some (.aload_n 0, 17, 0, 0, 0, 0) := rfl
theorem i_13_17 : ins 13 17 = some (.getfield 38, 20, 0, 8, 0, 0) := rfl
theorem i_13_20 : ins 13 20 = some (.iload_n 1, 21, 1, 0, 0, 0) := rfl
theorem i_13_21 : ins 13 21 = some (.iaload, 22, 0, 0, 0, 0) := rfl
theorem i_13_22 : ins 13 22 = some (.if_icmp .ne 16, 25, 38, 0, 0, 0) := rfl
theorem i_13_25 : ins 13 25 = some (.aload_n 0, 26, 0, 0, 0, 0) := rfl
theorem i_13_26 : ins 13 26 = some (.getfield 47, 29, 0, 11, 0, 0) := rfl
theorem i_13_29 : ins 13 29 = some (.iload_n 1, 30, 1, 0, 0, 0) := rfl
theorem i_13_30 : ins 13 30 = some (.iaload, 31, 0, 0, 0, 0) := rfl
theorem i_13_31 : ins 13 31 = some (.ifCond .ne 7, 34, 38, 0, 0, 0) := rfl
theorem i_13_34 : ins 13 34 = some (.iconst 1, 35, 0, 0, 0, 1) := rfl
theorem i_13_35 : ins 13 35 = some (.goto 4, 38, 39, 0, 0, 0) := rfl
theorem i_13_38 : ins 13 38 = some (.iconst 0, 39, 0, 0, 0, 0) := rfl
theorem i_13_39 : ins 13 39 = some (.ireturn, 40, 0, 0, 0, 0) := rfl
theorem S13_0 {Q : Ou → Prop} {M : Mem} {κ : Kp} (hκ : Rd κ) {b : Nat} (hb : isBl b) {k : Nat} (hk : k < 10) 
    (k1 : Q (.inl (some (.int (bI (if (M (b + 1) k) = 1 then (if (M (b + 2) k) = (M (b + 3) k) then (if (M (b + 6) k) = 0 then true else false) else false) else false)))), M, κ))
    : RT 13 (0, [.ref b, .int (nI k)], [], M, κ) Q := by
  refine w_load i_13_0 rfl rfl ?_
  refine w_getR (b + 1) i_13_1 hκ (bl_ob hb) rfl rfl ?_
  refine w_load i_13_4 rfl rfl ?_
  refine w_ialdN (e := k) (v := (M (b + 1) k)) i_13_5 hκ (bl_ar hb 1 (by decide)) (by omega) (by decide) (rfl) ?_
  refine w_push i_13_6 rfl ?_
  have K1 : RT 13 (39, [.ref b, .int (nI k)], [.int (bI (if (M (b + 1) k) = 1 then (if (M (b + 2) k) = (M (b + 3) k) then (if (M (b + 6) k) = 0 then true else false) else false) else false))], M, κ) Q := by
    exact w_iret i_13_39 (.inr ⟨rfl, isB_bI _⟩) (k1)
  refine w_if2n ((M (b + 1) k) = 1) i_13_7 cI_ne ?_ ?_
  · intro h2
    refine w_load i_13_10 rfl rfl ?_
    refine w_getR (b + 2) i_13_11 hκ (bl_ob hb) rfl rfl ?_
    refine w_load i_13_14 rfl rfl ?_
    refine w_ialdN (e := k) (v := (M (b + 2) k)) i_13_15 hκ (bl_ar hb 2 (by decide)) (by omega) (by decide) (rfl) ?_
    refine w_load i_13_16 rfl rfl ?_
    refine w_getR (b + 3) i_13_17 hκ (bl_ob hb) rfl rfl ?_
    refine w_load i_13_20 rfl rfl ?_
    refine w_ialdN (e := k) (v := (M (b + 3) k)) i_13_21 hκ (bl_ar hb 3 (by decide)) (by omega) (by decide) (rfl) ?_
    refine w_if2n ((M (b + 2) k) = (M (b + 3) k)) i_13_22 cI_ne ?_ ?_
    · intro h3
      refine w_load i_13_25 rfl rfl ?_
      refine w_getR (b + 6) i_13_26 hκ (bl_ob hb) rfl rfl ?_
      refine w_load i_13_29 rfl rfl ?_
      refine w_ialdN (e := k) (v := (M (b + 6) k)) i_13_30 hκ (bl_ar hb 6 (by decide)) (by omega) (by decide) (rfl) ?_
      refine w_if0n ((M (b + 6) k) = 0) i_13_31 cI0_ne ?_ ?_
      · intro h4
        refine w_push i_13_34 rfl ?_
        refine w_goto i_13_35 ?_
        exact (by first | exact (K1) | (have K9 := K1; simp only [↓if_pos h2, ↓if_pos h3, ↓if_pos h4] at K9 ⊢; exact (K9)))
      · intro h5
        refine w_push i_13_38 rfl ?_
        exact (by first | exact (K1) | (have K9 := K1; simp only [↓if_pos h2, ↓if_pos h3, ↓if_neg h5] at K9 ⊢; exact (K9)))
    · intro h6
      refine w_push i_13_38 rfl ?_
      exact (by first | exact (K1) | (have K9 := K1; simp only [↓if_pos h2, ↓if_neg h6] at K9 ⊢; exact (K9)))
  · intro h7
    refine w_push i_13_38 rfl ?_
    exact (by first | exact (K1) | (have K9 := K1; simp only [↓if_neg h7] at K9 ⊢; exact (K9)))
theorem c13 (hκ : Rd κ) {b : Nat} (hb : isBl b) {k : Nat} (hk : k < 10) {c : Int32} {d : Int32} {a : Int32} {g : Int32} (e0 : M (b + 1) k = c) (e1 : M (b + 2) k = d) (e2 : M (b + 3) k = a) (e3 : M (b + 6) k = g) : Run 13 (0, entL 13 [.ref b, .int (nI k)], [], M, κ) (.inl (some (.int (bI (stpF c d a g)))), M, κ) := by
  subst e0 e1 e2 e3
  exact RT_run (S13_0 hκ hb hk (by simp only [stpF]; congr 5; grind))
theorem i_6_0 : ins 6 0 = some (.aload_n 0, 1, 0, 0, 0, 0) := rfl
theorem i_6_1 : ins 6 1 = some (.getfield 9, 4, 0, 0, 0, 0) := rfl
theorem i_6_4 : ins 6 4 = some (.ifCond .eq 11, 7, 15, 0, 0, 0) := rfl
theorem i_6_7 : ins 6 7 = some (.aload_n 0, 8, 0, 0, 0, 0) := rfl
theorem i_6_8 : ins 6 8 = some (.getfield 18, 11, 0, 2, 0, 0) := rfl
theorem i_6_11 : ins 6 11 = some (.iload_n 1, 12, 1, 0, 0, 0) := rfl
theorem i_6_12 : ins 6 12 = some (.if_icmp .eq 19, 15, 31, 0, 0, 0) := rfl
theorem i_6_15 : ins 6 15 = some (.aload_n 0, 16, 0, 0, 0, 0) := rfl
theorem i_6_16 : ins 6 16 = some (.getfield 9, 19, 0, 0, 0, 0) := rfl
theorem i_6_19 : ins 6 19 = some (.iconst 2, 20, 0, 0, 0, 2) := rfl
theorem i_6_20 : ins 6 20 = some (.if_icmp .ne 15, 23, 35, 0, 0, 0) := rfl
theorem i_6_23 : ins 6 23 = some (.aload_n 0, 24, 0, 0, 0, 0) := rfl
theorem i_6_24 : ins 6 24 = some (.getfield 21, 27, 0, 3, 0, 0) := rfl
theorem i_6_27 : ins 6 27 = some (.iload_n 1, 28, 1, 0, 0, 0) := rfl
theorem i_6_28 : ins 6 28 = some (.if_icmp .ne 7, 31, 35, 0, 0, 0) := rfl
theorem i_6_31 : ins 6 31 = some (.iconst 1, 32, 0, 0, 0, 1) := rfl
theorem i_6_32 : ins 6 32 = some (.goto 4, 35, 36, 0, 0, 0) := rfl
theorem i_6_35 : ins 6 35 = some (.iconst 0, 36, 0, 0, 0, 0) := rfl
theorem i_6_36 : ins 6 36 = some (.ireturn, 37, 0, 0, 0, 0) := rfl
theorem S6_0 {Q : Ou → Prop} {M : Mem} {κ : Kp} (hκ : Rd κ) {b : Nat} (hb : isBl b) {y : Int32}
    (k1 : Q (.inl (some (.int (bI (if (M b 0) = 0 then (if (M b 0) = 2 then (if (M b 3) = y then true else false) else false) else (if (M b 2) = y then true else (if (M b 0) = 2 then (if (M b 3) = y then true else false) else false)))))), M, κ))
    : RT 6 (0, [.ref b, .int y], [], M, κ) Q := by
  refine w_load i_6_0 rfl rfl ?_
  refine w_getI (v := (M b 0)) i_6_1 hκ (bl_ob hb) rfl (rfl) ?_
  have K1 : RT 6 (36, [.ref b, .int y], [.int (bI (if (M b 0) = 0 then (if (M b 0) = 2 then (if (M b 3) = y then true else false) else false) else (if (M b 2) = y then true else (if (M b 0) = 2 then (if (M b 3) = y then true else false) else false))))], M, κ) Q := by
    exact w_iret i_6_36 (.inr ⟨rfl, isB_bI _⟩) (k1)
  refine w_if0 ((M b 0) = 0) i_6_4 cI0_eq ?_ ?_
  · intro h2
    refine w_load i_6_15 rfl rfl ?_
    refine w_getI (v := (M b 0)) i_6_16 hκ (bl_ob hb) rfl (rfl) ?_
    refine w_push i_6_19 rfl ?_
    refine w_if2n ((M b 0) = 2) i_6_20 cI_ne ?_ ?_
    · intro h3
      refine w_load i_6_23 rfl rfl ?_
      refine w_getI (v := (M b 3)) i_6_24 hκ (bl_ob hb) rfl (rfl) ?_
      refine w_load i_6_27 rfl rfl ?_
      refine w_if2n ((M b 3) = y) i_6_28 cI_ne ?_ ?_
      · intro h4
        refine w_push i_6_31 rfl ?_
        refine w_goto i_6_32 ?_
        exact (by first | exact (K1) | (have K9 := K1; simp only [↓if_pos h2, ↓if_pos h3, ↓if_pos h4] at K9 ⊢; exact (K9)))
      · intro h5
        refine w_push i_6_35 rfl ?_
        exact (by first | exact (K1) | (have K9 := K1; simp only [↓if_pos h2, ↓if_pos h3, ↓if_neg h5] at K9 ⊢; exact (K9)))
    · intro h6
      refine w_push i_6_35 rfl ?_
      exact (by first | exact (K1) | (have K9 := K1; simp only [↓if_pos h2, ↓if_neg h6] at K9 ⊢; exact (K9)))
  · intro h7
    refine w_load i_6_7 rfl rfl ?_
    refine w_getI (v := (M b 2)) i_6_8 hκ (bl_ob hb) rfl (rfl) ?_
    refine w_load i_6_11 rfl rfl ?_
    refine w_if2 ((M b 2) = y) i_6_12 cI_eq ?_ ?_
    · intro h8
      refine w_push i_6_31 rfl ?_
      refine w_goto i_6_32 ?_
      exact (by first | exact (K1) | (have K9 := K1; simp only [↓if_neg h7, ↓if_pos h8] at K9 ⊢; exact (K9)))
    · intro h9
      refine w_load i_6_15 rfl rfl ?_
      refine w_getI (v := (M b 0)) i_6_16 hκ (bl_ob hb) rfl (rfl) ?_
      refine w_push i_6_19 rfl ?_
      refine w_if2n ((M b 0) = 2) i_6_20 cI_ne ?_ ?_
      · intro h10
        refine w_load i_6_23 rfl rfl ?_
        refine w_getI (v := (M b 3)) i_6_24 hκ (bl_ob hb) rfl (rfl) ?_
        refine w_load i_6_27 rfl rfl ?_
        refine w_if2n ((M b 3) = y) i_6_28 cI_ne ?_ ?_
        · intro h11
          refine w_push i_6_31 rfl ?_
          refine w_goto i_6_32 ?_
          exact (by first | exact (K1) | (have K9 := K1; simp only [↓if_neg h7, ↓if_neg h9, ↓if_pos h10, ↓if_pos h11] at K9 ⊢; exact (K9)))
        · intro h12
          refine w_push i_6_35 rfl ?_
          exact (by first | exact (K1) | (have K9 := K1; simp only [↓if_neg h7, ↓if_neg h9, ↓if_pos h10, ↓if_neg h12] at K9 ⊢; exact (K9)))
      · intro h13
        refine w_push i_6_35 rfl ?_
        exact (by first | exact (K1) | (have K9 := K1; simp only [↓if_neg h7, ↓if_neg h9, ↓if_neg h13] at K9 ⊢; exact (K9)))
theorem c6 (hκ : Rd κ) {b : Nat} (hb : isBl b) {u : Int32} {t : Int32} {f : Int32} {y : Int32} (e0 : M b 0 = u) (e1 : M b 2 = t) (e2 : M b 3 = f) : Run 6 (0, entL 6 [.ref b, .int y], [], M, κ) (.inl (some (.int (bI (comF u t f y)))), M, κ) := by
  subst e0 e1 e2
  exact RT_run (S6_0 hκ hb (by simp only [comF]; congr 5; grind))
theorem i_16_0 : ins 16 0 = some (.aload_n 0, 1, 0, 0, 0, 0) := rfl
theorem i_16_1 : ins 16 1 = some (.getfield 25, 4, 1, 4, 0, 0) := rfl
theorem i_16_4 : ins 16 4 = some (.iload_n 1, 5, 1, 0, 0, 0) := rfl
theorem i_16_5 : ins 16 5 = some (.baload, 6, 0, 0, 0, 0) := rfl
theorem i_16_6 : ins 16 6 = some (.ifCond .eq 10, 9, 16, 0, 0, 0) := rfl
theorem i_16_9 : ins 16 9 = some (.aload_n 0, 10, 0, 0, 0, 0) := rfl
theorem i_16_10 : ins 16 10 = some (.getfield 22, 13, 1, 3, 0, 0) := rfl
theorem i_16_13 : ins 16 13 = some (.goto 7, 16, 20, 0, 0, 0) := rfl
theorem i_16_16 : ins 16 16 = some (.aload_n 0, 17, 0, 0, 0, 0) := rfl
theorem i_16_17 : ins 16 17 = some (.getfield 19, 20, 1, 2, 0, 0) := rfl
theorem i_16_20 : ins 16 20 = some (.ireturn, 21, 0, 0, 0, 0) := rfl
theorem S16_0 {Q : Ou → Prop} {M : Mem} {κ : Kp} (hκ : Rd κ) {k : Nat} (hk : k < 10) 
    (k1 : Q (.inl (some (.int (if (M 114 k) = 0 then (M 113 2) else (M 113 3)))), M, κ))
    : RT 16 (0, [.ref 113, .int (nI k)], [], M, κ) Q := by
  refine w_load i_16_0 rfl rfl ?_
  refine w_getR 114 i_16_1 hκ (⟨rfl, by decide⟩ : isOb 113 1) rfl rfl ?_
  refine w_load i_16_4 rfl rfl ?_
  refine w_zaldN (e := k) (v := (M 114 k)) i_16_5 hκ (⟨rfl, rfl, by decide⟩ : isZr 114 10) (by omega) (by decide) (rfl) ?_
  have K1 : RT 16 (20, [.ref 113, .int (nI k)], [.int (if (M 114 k) = 0 then (M 113 2) else (M 113 3))], M, κ) Q := by
    exact w_iret i_16_20 (.inl rfl) (k1)
  refine w_if0 ((M 114 k) = 0) i_16_6 cI0_eq ?_ ?_
  · intro h2
    refine w_load i_16_16 rfl rfl ?_
    refine w_getI (v := (M 113 2)) i_16_17 hκ (⟨rfl, by decide⟩ : isOb 113 1) rfl (rfl) ?_
    exact (by first | exact (K1) | (have K9 := K1; simp only [↓if_pos h2] at K9 ⊢; exact (K9)))
  · intro h3
    refine w_load i_16_9 rfl rfl ?_
    refine w_getI (v := (M 113 3)) i_16_10 hκ (⟨rfl, by decide⟩ : isOb 113 1) rfl (rfl) ?_
    refine w_goto i_16_13 ?_
    exact (by first | exact (K1) | (have K9 := K1; simp only [↓if_neg h3] at K9 ⊢; exact (K9)))
theorem c16 (hκ : Rd κ) {k : Nat} (hk : k < 10) {w : Int32} {al : Int32} {po : Int32} (e0 : M 114 k = w) (e1 : M 113 2 = al) (e2 : M 113 3 = po) : Run 16 (0, entL 16 [.ref 113, .int (nI k)], [], M, κ) (.inl (some (.int (if w = 0 then al else po))), M, κ) := by
  subst e0 e1 e2
  exact RT_run (S16_0 hκ hk rfl)
theorem i_116_0 : ins 116 0 = some (.aload_n 0, 1, 0, 0, 0, 0) := rfl
theorem i_116_1 : ins 116 1 = some (.getfield 81, 4, 7, 27, 0, 0) := rfl
theorem i_116_4 : ins 116 4 = some (.iload_n 1, 5, 1, 0, 0, 0) := rfl
theorem i_116_5 : ins 116 5 = some (.iaload, 6, 0, 0, 0, 0) := rfl
theorem i_116_6 : ins 116 6 = some (.bipush 7, 8, 0, 0, 0, 7) := rfl
theorem i_116_8 : ins 116 8 = some (.if_icmp .lt 7, 11, 15, 0, 0, 0) := rfl
theorem i_116_11 : ins 116 11 = some (.iconst 1, 12, 0, 0, 0, 1) := rfl
theorem i_116_12 : ins 116 12 = some (.goto 4, 15, 16, 0, 0, 0) := rfl
theorem i_116_15 : ins 116 15 = some (.iconst 0, 16, 0, 0, 0, 0) := rfl
theorem i_116_16 : ins 116 16 = some (.ireturn, 17, 0, 0, 0, 0) := rfl
theorem S116_0 {Q : Ou → Prop} {M : Mem} {κ : Kp} (hκ : Rd κ) {k : Nat} (hk : k < 60) 
    (k1 : Q (.inl (some (.int (bI (if (M 152 k) < 7 then false else true)))), M, κ))
    : RT 116 (0, [.ref 134, .int (nI k)], [], M, κ) Q := by
  refine w_load i_116_0 rfl rfl ?_
  refine w_getR 152 i_116_1 hκ (⟨rfl, by decide⟩ : isOb 134 7) rfl rfl ?_
  refine w_load i_116_4 rfl rfl ?_
  refine w_ialdN (e := k) (v := (M 152 k)) i_116_5 hκ (⟨rfl, rfl, by decide⟩ : isAr 152 60) (by omega) (by decide) (rfl) ?_
  refine w_push i_116_6 rfl ?_
  have K1 : RT 116 (16, [.ref 134, .int (nI k)], [.int (bI (if (M 152 k) < 7 then false else true))], M, κ) Q := by
    exact w_iret i_116_16 (.inr ⟨rfl, isB_bI _⟩) (k1)
  refine w_if2 ((M 152 k) < 7) i_116_8 cI_lt ?_ ?_
  · intro h2
    refine w_push i_116_15 rfl ?_
    exact (by first | exact (K1) | (have K9 := K1; simp only [↓if_pos h2] at K9 ⊢; exact (K9)))
  · intro h3
    refine w_push i_116_11 rfl ?_
    refine w_goto i_116_12 ?_
    exact (by first | exact (K1) | (have K9 := K1; simp only [↓if_neg h3] at K9 ⊢; exact (K9)))
theorem c116 (hκ : Rd κ) {k : Nat} (hk : k < 60) {c : Int32} (e0 : M 152 k = c) : Run 116 (0, entL 116 [.ref 134, .int (nI k)], [], M, κ) (.inl (some (.int (bI (isP c)))), M, κ) := by
  subst e0
  exact RT_run (S116_0 hκ hk rfl)
theorem i_117_0 : ins 117 0 = some (.aload_n 0, 1, 0, 0, 0, 0) := rfl
theorem i_117_1 : ins 117 1 = some (.getfield 81, 4, 7, 27, 0, 0) := rfl
theorem i_117_4 : ins 117 4 = some (.iload_n 1, 5, 1, 0, 0, 0) := rfl
theorem i_117_5 : ins 117 5 = some (.iaload, 6, 0, 0, 0, 0) := rfl
theorem i_117_6 : ins 117 6 = some (.invokestatic 183, 9, 105, 1, 1, 0) := rfl
theorem i_117_9 : ins 117 9 = some (.ifCond .eq 17, 12, 26, 0, 0, 0) := rfl
theorem i_117_12 : ins 117 12 = some (.aload_n 0, 13, 0, 0, 0, 0) := rfl
theorem i_117_13 : ins 117 13 = some (.getfield 84, 16, 7, 28, 0, 0) := rfl
theorem i_117_16 : ins 117 16 = some (.iload_n 1, 17, 1, 0, 0, 0) := rfl
theorem i_117_17 : ins 117 17 = some (.iaload, 18, 0, 0, 0, 0) := rfl
theorem i_117_18 : ins 117 18 = some (.iload_n 2, 19, 2, 0, 0, 0) := rfl
theorem i_117_19 : ins 117 19 = some (.if_icmp .ne 7, 22, 26, 0, 0, 0) := rfl
theorem i_117_22 : ins 117 22 = some (.iconst 1, 23, 0, 0, 0, 1) := rfl
theorem i_117_23 : ins 117 23 = some (.goto 4, 26, 27, 0, 0, 0) := rfl
theorem i_117_26 : ins 117 26 = some (.iconst 0, 27, 0, 0, 0, 0) := rfl
theorem i_117_27 : ins 117 27 = some (.ireturn, 28, 0, 0, 0, 0) := rfl
theorem S117_0 {Q : Ou → Prop} {M : Mem} {κ : Kp} (hκ : Rd κ) {k : Nat} (hk : k < 60) {v : Int32}
    (k1 : Q (.inl (some (.int (bI (if (isW (M 152 k)) = true then (if (M 153 k) = v then true else false) else false)))), M, κ))
    : RT 117 (0, [.ref 134, .int (nI k), .int v], [], M, κ) Q := by
  refine w_load i_117_0 rfl rfl ?_
  refine w_getR 152 i_117_1 hκ (⟨rfl, by decide⟩ : isOb 134 7) rfl rfl ?_
  refine w_load i_117_4 rfl rfl ?_
  refine w_ialdN (e := k) (v := (M 152 k)) i_117_5 hκ (⟨rfl, rfl, by decide⟩ : isAr 152 60) (by omega) (by decide) (rfl) ?_
  refine w_callS i_117_6 ⟨by decide, by decide, by decide, rfl, rfl⟩ (av := [.int (M 152 k)]) (rest := []) rfl rfl (Nat.le_of_ble_eq_true rfl) (v := some (.int (bI (isW (M 152 k))))) (c105 hκ) ?_
  have K1 : RT 117 (27, [.ref 134, .int (nI k), .int v], [.int (bI (if (isW (M 152 k)) = true then (if (M 153 k) = v then true else false) else false))], M, κ) Q := by
    exact w_iret i_117_27 (.inr ⟨rfl, isB_bI _⟩) (k1)
  refine w_if0n ((isW (M 152 k)) = true) i_117_9 cB_eq ?_ ?_
  · intro h2
    refine w_load i_117_12 rfl rfl ?_
    refine w_getR 153 i_117_13 hκ (⟨rfl, by decide⟩ : isOb 134 7) rfl rfl ?_
    refine w_load i_117_16 rfl rfl ?_
    refine w_ialdN (e := k) (v := (M 153 k)) i_117_17 hκ (⟨rfl, rfl, by decide⟩ : isAr 153 60) (by omega) (by decide) (rfl) ?_
    refine w_load i_117_18 rfl rfl ?_
    refine w_if2n ((M 153 k) = v) i_117_19 cI_ne ?_ ?_
    · intro h3
      refine w_push i_117_22 rfl ?_
      refine w_goto i_117_23 ?_
      exact (by first | exact (K1) | (have K9 := K1; simp only [↓if_pos h2, ↓if_pos h3] at K9 ⊢; exact (K9)))
    · intro h4
      refine w_push i_117_26 rfl ?_
      exact (by first | exact (K1) | (have K9 := K1; simp only [↓if_pos h2, ↓if_neg h4] at K9 ⊢; exact (K9)))
  · intro h5
    refine w_push i_117_26 rfl ?_
    exact (by first | exact (K1) | (have K9 := K1; simp only [↓if_neg h5] at K9 ⊢; exact (K9)))
theorem c117 (hκ : Rd κ) {k : Nat} (hk : k < 60) {c : Int32} {d : Int32} {v : Int32} (e0 : M 152 k = c) (e1 : M 153 k = d) : Run 117 (0, entL 117 [.ref 134, .int (nI k), .int v], [], M, κ) (.inl (some (.int (bI (wsM c d v)))), M, κ) := by
  subst e0 e1
  exact RT_run (S117_0 hκ hk (by simp only [wsM, isW]; congr 5; grind))
theorem i_118_0 : ins 118 0 = some (.aload_n 0, 1, 0, 0, 0, 0) := rfl
theorem i_118_1 : ins 118 1 = some (.getfield 81, 4, 7, 27, 0, 0) := rfl
theorem i_118_4 : ins 118 4 = some (.iload_n 1, 5, 1, 0, 0, 0) := rfl
theorem i_118_5 : ins 118 5 = some (.iaload, 6, 0, 0, 0, 0) := rfl
theorem i_118_6 : ins 118 6 = some (.istore_n 3, 7, 3, 0, 0, 0) := rfl
theorem i_118_7 : ins 118 7 = some (.iload_n 3, 8, 3, 0, 0, 0) := rfl
theorem i_118_8 : ins 118 8 = some (.ifCond .eq 17, 11, 25, 0, 0, 0) := rfl
theorem i_118_11 : ins 118 11 = some (.aload_n 0, 12, 0, 0, 0, 0) := rfl
theorem i_118_12 : ins 118 12 = some (.getfield 87, 15, 7, 29, 0, 0) := rfl
theorem i_118_15 : ins 118 15 = some (.iload_n 1, 16, 1, 0, 0, 0) := rfl
theorem i_118_16 : ins 118 16 = some (.iaload, 17, 0, 0, 0, 0) := rfl
theorem i_118_17 : ins 118 17 = some (.iload_n 2, 18, 2, 0, 0, 0) := rfl
theorem i_118_18 : ins 118 18 = some (.if_icmp .ne 7, 21, 25, 0, 0, 0) := rfl
theorem i_118_21 : ins 118 21 = some (.iconst 1, 22, 0, 0, 0, 1) := rfl
theorem i_118_22 : ins 118 22 = some (.goto 4, 25, 26, 0, 0, 0) := rfl
theorem i_118_25 : ins 118 25 = some (.iconst 0, 26, 0, 0, 0, 0) := rfl
theorem i_118_26 : ins 118 26 = some (.istore 4, 28, 4, 0, 0, 0) := rfl
theorem i_118_28 : ins 118 28 = some (.iload_n 3, 29, 3, 0, 0, 0) := rfl
theorem i_118_29 : ins 118 29 = some (.iconst 2, 30, 0, 0, 0, 2) := rfl
theorem i_118_30 : ins 118 30 = some (.if_icmp .eq 30, 33, 60, 0, 0, 0) := rfl
theorem i_118_33 : ins 118 33 = some (.iload_n 3, 34, 3, 0, 0, 0) := rfl
theorem i_118_34 : ins 118 34 = some (.iconst 3, 35, 0, 0, 0, 3) := rfl
theorem i_118_35 : ins 118 35 = some (.if_icmp .eq 25, 38, 60, 0, 0, 0) := rfl
theorem i_118_38 : ins 118 38 = some (.iload_n 3, 39, 3, 0, 0, 0) := rfl
theorem i_118_39 : ins 118 39 = some (.iconst 4, 40, 0, 0, 0, 4) := rfl
theorem i_118_40 : ins 118 40 = some (.if_icmp .eq 20, 43, 60, 0, 0, 0) := rfl
theorem i_118_43 : ins 118 43 = some (.iload_n 3, 44, 3, 0, 0, 0) := rfl
theorem i_118_44 : ins 118 44 = some (.iconst 5, 45, 0, 0, 0, 5) := rfl
theorem i_118_45 : ins 118 45 = some (.if_icmp .eq 15, 48, 60, 0, 0, 0) := rfl
theorem i_118_48 : ins 118 48 = some (.iload_n 3, 49, 3, 0, 0, 0) := rfl
theorem i_118_49 : ins 118 49 = some (.bipush 6, 51, 0, 0, 0, 6) := rfl
theorem i_118_51 : ins 118 51 = some (.if_icmp .eq 9, 54, 60, 0, 0, 0) := rfl
theorem i_118_54 : ins 118 54 = some (.iload_n 3, 55, 3, 0, 0, 0) := rfl
theorem i_118_55 : ins 118 55 = some (.bipush 8, 57, 0, 0, 0, 8) := rfl
theorem i_118_57 : ins 118 57 = some (.if_icmp .ne 17, 60, 74, 0, 0, 0) := rfl
theorem i_118_60 : ins 118 60 = some (.aload_n 0, 61, 0, 0, 0, 0) := rfl
theorem i_118_61 : ins 118 61 = some (.getfield 90, 64, 7, 30, 0, 0) := rfl
theorem i_118_64 : ins 118 64 = some (.iload_n 1, 65, 1, 0, 0, 0) := rfl
theorem i_118_65 : ins 118 65 = some (.iaload, 66, 0, 0, 0, 0) := rfl
theorem i_118_66 : ins 118 66 = some (.iload_n 2, 67, 2, 0, 0, 0) := rfl
theorem i_118_67 : ins 118 67 = some (.if_icmp .ne 7, 70, 74, 0, 0, 0) := rfl
theorem i_118_70 : ins 118 70 = some (.iconst 1, 71, 0, 0, 0, 1) := rfl
theorem i_118_71 : ins 118 71 = some (.goto 4, 74, 75, 0, 0, 0) := rfl
theorem i_118_74 : ins 118 74 = some (.iconst 0, 75, 0, 0, 0, 0) := rfl
theorem i_118_75 : ins 118 75 = some (.istore 5, 77, 5, 0, 0, 0) := rfl
theorem i_118_77 : ins 118 77 = some (.iload 4, 79, 4, 0, 0, 0) := rfl
theorem i_118_79 : ins 118 79 = some (.ifCond .ne 32, 82, 111, 0, 0, 0) := rfl
theorem i_118_82 : ins 118 82 = some (.iload 5, 84, 5, 0, 0, 0) := rfl
theorem i_118_84 : ins 118 84 = some (.ifCond .ne 27, 87, 111, 0, 0, 0) := rfl
theorem i_118_87 : ins 118 87 = some (.aload_n 0, 88, 0, 0, 0, 0) := rfl
theorem i_118_88 : ins 118 88 = some (.getfield 96, 91, 7, 32, 0, 0) := rfl
theorem i_118_91 : ins 118 91 = some (.iload_n 1, 92, 1, 0, 0, 0) := rfl
theorem i_118_92 : ins 118 92 = some (.iaload, 93, 0, 0, 0, 0) := rfl
theorem i_118_93 : ins 118 93 = some (.iconst 1, 94, 0, 0, 0, 1) := rfl
theorem i_118_94 : ins 118 94 = some (.iload_n 2, 95, 2, 0, 0, 0) := rfl
theorem i_118_95 : ins 118 95 = some (.iadd, 96, 0, 0, 0, 0) := rfl
theorem i_118_96 : ins 118 96 = some (.if_icmp .eq 15, 99, 111, 0, 0, 0) := rfl
theorem i_118_99 : ins 118 99 = some (.aload_n 0, 100, 0, 0, 0, 0) := rfl
theorem i_118_100 : ins 118 100 = some (.getfield 96, 103, 7, 32, 0, 0) := rfl
theorem i_118_103 : ins 118 103 = some (.iload_n 1, 104, 1, 0, 0, 0) := rfl
theorem i_118_104 : ins 118 104 = some (.iaload, 105, 0, 0, 0, 0) := rfl
theorem i_118_105 : ins 118 105 = some (.iconst (-1), 106, 0, 0, 0, (-1)) := rfl
theorem i_118_106 : ins 118 106 = some (.iload_n 2, 107, 2, 0, 0, 0) := rfl
theorem i_118_107 : ins 118 107 = some (.isub, 108, 0, 0, 0, 0) := rfl
theorem i_118_108 : ins 118 108 = some (.if_icmp .ne 7, 111, 115, 0, 0, 0) := rfl
theorem i_118_111 : ins 118 111 = some (.iconst 1, 112, 0, 0, 0, 1) := rfl
theorem i_118_112 : ins 118 112 = some (.goto 4, 115, 116, 0, 0, 0) := rfl
theorem i_118_115 : ins 118 115 = some (.iconst 0, 116, 0, 0, 0, 0) := rfl
theorem i_118_116 : ins 118 116 = some (.ireturn, 117, 0, 0, 0, 0) := rfl
theorem S118_0 {Q : Ou → Prop} {M : Mem} {κ : Kp} (hκ : Rd κ) {k : Nat} (hk : k < 60) {v : Int32}
    (k1 : Q (.inl (some (.int (bI (if (if (M 152 k) = 0 then false else (if (M 154 k) = v then true else false)) = true then true else (if (if (M 152 k) = 2 then (if (M 155 k) = v then true else false) else (if (M 152 k) = 3 then (if (M 155 k) = v then true else false) else (if (M 152 k) = 4 then (if (M 155 k) = v then true else false) else (if (M 152 k) = 5 then (if (M 155 k) = v then true else false) else (if (M 152 k) = 6 then (if (M 155 k) = v then true else false) else (if (M 152 k) = 8 then (if (M 155 k) = v then true else false) else false)))))) = true then true else (if (M 157 k) = (1 + v) then true else (if (M 157 k) = ((-1) - v) then true else false))))))), M, κ))
    : RT 118 (0, [.ref 134, .int (nI k), .int v, UU, UU, UU], [], M, κ) Q := by
  refine w_load i_118_0 rfl rfl ?_
  refine w_getR 152 i_118_1 hκ (⟨rfl, by decide⟩ : isOb 134 7) rfl rfl ?_
  refine w_load i_118_4 rfl rfl ?_
  refine w_ialdN (e := k) (v := (M 152 k)) i_118_5 hκ (⟨rfl, rfl, by decide⟩ : isAr 152 60) (by omega) (by decide) (rfl) ?_
  refine w_store (l1 := [.ref 134, .int (nI k), .int v, .int (M 152 k), UU, UU]) i_118_6 rfl (Nat.le_of_ble_eq_true rfl) rfl ?_
  refine w_load i_118_7 rfl rfl ?_
  have K1 : RT 118 (26, [.ref 134, .int (nI k), .int v, .int (M 152 k), UU, UU], [.int (bI (if (M 152 k) = 0 then false else (if (M 154 k) = v then true else false)))], M, κ) Q := by
    refine w_store (l1 := [.ref 134, .int (nI k), .int v, .int (M 152 k), .int (bI (if (M 152 k) = 0 then false else (if (M 154 k) = v then true else false))), UU]) i_118_26 rfl (Nat.le_of_ble_eq_true rfl) rfl ?_
    refine w_load i_118_28 rfl rfl ?_
    refine w_push i_118_29 rfl ?_
    have K2 : RT 118 (75, [.ref 134, .int (nI k), .int v, .int (M 152 k), .int (bI (if (M 152 k) = 0 then false else (if (M 154 k) = v then true else false))), UU], [.int (bI (if (M 152 k) = 2 then (if (M 155 k) = v then true else false) else (if (M 152 k) = 3 then (if (M 155 k) = v then true else false) else (if (M 152 k) = 4 then (if (M 155 k) = v then true else false) else (if (M 152 k) = 5 then (if (M 155 k) = v then true else false) else (if (M 152 k) = 6 then (if (M 155 k) = v then true else false) else (if (M 152 k) = 8 then (if (M 155 k) = v then true else false) else false)))))))], M, κ) Q := by
      refine w_store (l1 := [.ref 134, .int (nI k), .int v, .int (M 152 k), .int (bI (if (M 152 k) = 0 then false else (if (M 154 k) = v then true else false))), .int (bI (if (M 152 k) = 2 then (if (M 155 k) = v then true else false) else (if (M 152 k) = 3 then (if (M 155 k) = v then true else false) else (if (M 152 k) = 4 then (if (M 155 k) = v then true else false) else (if (M 152 k) = 5 then (if (M 155 k) = v then true else false) else (if (M 152 k) = 6 then (if (M 155 k) = v then true else false) else (if (M 152 k) = 8 then (if (M 155 k) = v then true else false) else false)))))))]) i_118_75 rfl (Nat.le_of_ble_eq_true rfl) rfl ?_
      refine w_load i_118_77 rfl rfl ?_
      have K3 : RT 118 (116, [.ref 134, .int (nI k), .int v, .int (M 152 k), .int (bI (if (M 152 k) = 0 then false else (if (M 154 k) = v then true else false))), .int (bI (if (M 152 k) = 2 then (if (M 155 k) = v then true else false) else (if (M 152 k) = 3 then (if (M 155 k) = v then true else false) else (if (M 152 k) = 4 then (if (M 155 k) = v then true else false) else (if (M 152 k) = 5 then (if (M 155 k) = v then true else false) else (if (M 152 k) = 6 then (if (M 155 k) = v then true else false) else (if (M 152 k) = 8 then (if (M 155 k) = v then true else false) else false)))))))], [.int (bI (if (if (M 152 k) = 0 then false else (if (M 154 k) = v then true else false)) = true then true else (if (if (M 152 k) = 2 then (if (M 155 k) = v then true else false) else (if (M 152 k) = 3 then (if (M 155 k) = v then true else false) else (if (M 152 k) = 4 then (if (M 155 k) = v then true else false) else (if (M 152 k) = 5 then (if (M 155 k) = v then true else false) else (if (M 152 k) = 6 then (if (M 155 k) = v then true else false) else (if (M 152 k) = 8 then (if (M 155 k) = v then true else false) else false)))))) = true then true else (if (M 157 k) = (1 + v) then true else (if (M 157 k) = ((-1) - v) then true else false)))))], M, κ) Q := by
        exact w_iret i_118_116 (.inr ⟨rfl, isB_bI _⟩) (k1)
      refine w_if0 ((if (M 152 k) = 0 then false else (if (M 154 k) = v then true else false)) = true) i_118_79 cB_ne ?_ ?_
      · intro h4
        refine w_push i_118_111 rfl ?_
        refine w_goto i_118_112 ?_
        exact (by first | exact (K3) | (have K9 := K3; simp only [↓if_pos h4] at K9 ⊢; exact (K9)))
      · intro h5
        refine w_load i_118_82 rfl rfl ?_
        refine w_if0 ((if (M 152 k) = 2 then (if (M 155 k) = v then true else false) else (if (M 152 k) = 3 then (if (M 155 k) = v then true else false) else (if (M 152 k) = 4 then (if (M 155 k) = v then true else false) else (if (M 152 k) = 5 then (if (M 155 k) = v then true else false) else (if (M 152 k) = 6 then (if (M 155 k) = v then true else false) else (if (M 152 k) = 8 then (if (M 155 k) = v then true else false) else false)))))) = true) i_118_84 cB_ne ?_ ?_
        · intro h6
          refine w_push i_118_111 rfl ?_
          refine w_goto i_118_112 ?_
          exact (by first | exact (K3) | (have K9 := K3; simp only [↓if_neg h5, ↓if_pos h6] at K9 ⊢; exact (K9)))
        · intro h7
          refine w_load i_118_87 rfl rfl ?_
          refine w_getR 157 i_118_88 hκ (⟨rfl, by decide⟩ : isOb 134 7) rfl rfl ?_
          refine w_load i_118_91 rfl rfl ?_
          refine w_ialdN (e := k) (v := (M 157 k)) i_118_92 hκ (⟨rfl, rfl, by decide⟩ : isAr 157 60) (by omega) (by decide) (rfl) ?_
          refine w_push i_118_93 rfl ?_
          refine w_load i_118_94 rfl rfl ?_
          refine w_bin (w := (1 + v)) i_118_95 rfl rfl ?_
          refine w_if2 ((M 157 k) = (1 + v)) i_118_96 cI_eq ?_ ?_
          · intro h8
            refine w_push i_118_111 rfl ?_
            refine w_goto i_118_112 ?_
            exact (by first | exact (K3) | (have K9 := K3; simp only [↓if_neg h5, ↓if_neg h7, ↓if_pos h8] at K9 ⊢; exact (K9)))
          · intro h9
            refine w_load i_118_99 rfl rfl ?_
            refine w_getR 157 i_118_100 hκ (⟨rfl, by decide⟩ : isOb 134 7) rfl rfl ?_
            refine w_load i_118_103 rfl rfl ?_
            refine w_ialdN (e := k) (v := (M 157 k)) i_118_104 hκ (⟨rfl, rfl, by decide⟩ : isAr 157 60) (by omega) (by decide) (rfl) ?_
            refine w_push i_118_105 rfl ?_
            refine w_load i_118_106 rfl rfl ?_
            refine w_bin (w := ((-1) - v)) i_118_107 rfl rfl ?_
            refine w_if2n ((M 157 k) = ((-1) - v)) i_118_108 cI_ne ?_ ?_
            · intro h10
              refine w_push i_118_111 rfl ?_
              refine w_goto i_118_112 ?_
              exact (by first | exact (K3) | (have K9 := K3; simp only [↓if_neg h5, ↓if_neg h7, ↓if_neg h9, ↓if_pos h10] at K9 ⊢; exact (K9)))
            · intro h11
              refine w_push i_118_115 rfl ?_
              exact (by first | exact (K3) | (have K9 := K3; simp only [↓if_neg h5, ↓if_neg h7, ↓if_neg h9, ↓if_neg h11] at K9 ⊢; exact (K9)))
    refine w_if2 ((M 152 k) = 2) i_118_30 cI_eq ?_ ?_
    · intro h12
      refine w_load i_118_60 rfl rfl ?_
      refine w_getR 155 i_118_61 hκ (⟨rfl, by decide⟩ : isOb 134 7) rfl rfl ?_
      refine w_load i_118_64 rfl rfl ?_
      refine w_ialdN (e := k) (v := (M 155 k)) i_118_65 hκ (⟨rfl, rfl, by decide⟩ : isAr 155 60) (by omega) (by decide) (rfl) ?_
      refine w_load i_118_66 rfl rfl ?_
      refine w_if2n ((M 155 k) = v) i_118_67 cI_ne ?_ ?_
      · intro h13
        refine w_push i_118_70 rfl ?_
        refine w_goto i_118_71 ?_
        exact (by first | exact (K2) | (have K9 := K2; simp only [↓if_pos h12, ↓if_pos h13] at K9 ⊢; exact (K9)))
      · intro h14
        refine w_push i_118_74 rfl ?_
        exact (by first | exact (K2) | (have K9 := K2; simp only [↓if_pos h12, ↓if_neg h14] at K9 ⊢; exact (K9)))
    · intro h15
      refine w_load i_118_33 rfl rfl ?_
      refine w_push i_118_34 rfl ?_
      refine w_if2 ((M 152 k) = 3) i_118_35 cI_eq ?_ ?_
      · intro h16
        refine w_load i_118_60 rfl rfl ?_
        refine w_getR 155 i_118_61 hκ (⟨rfl, by decide⟩ : isOb 134 7) rfl rfl ?_
        refine w_load i_118_64 rfl rfl ?_
        refine w_ialdN (e := k) (v := (M 155 k)) i_118_65 hκ (⟨rfl, rfl, by decide⟩ : isAr 155 60) (by omega) (by decide) (rfl) ?_
        refine w_load i_118_66 rfl rfl ?_
        refine w_if2n ((M 155 k) = v) i_118_67 cI_ne ?_ ?_
        · intro h17
          refine w_push i_118_70 rfl ?_
          refine w_goto i_118_71 ?_
          exact (by first | exact (K2) | (have K9 := K2; simp only [↓if_neg h15, ↓if_pos h16, ↓if_pos h17] at K9 ⊢; exact (K9)))
        · intro h18
          refine w_push i_118_74 rfl ?_
          exact (by first | exact (K2) | (have K9 := K2; simp only [↓if_neg h15, ↓if_pos h16, ↓if_neg h18] at K9 ⊢; exact (K9)))
      · intro h19
        refine w_load i_118_38 rfl rfl ?_
        refine w_push i_118_39 rfl ?_
        refine w_if2 ((M 152 k) = 4) i_118_40 cI_eq ?_ ?_
        · intro h20
          refine w_load i_118_60 rfl rfl ?_
          refine w_getR 155 i_118_61 hκ (⟨rfl, by decide⟩ : isOb 134 7) rfl rfl ?_
          refine w_load i_118_64 rfl rfl ?_
          refine w_ialdN (e := k) (v := (M 155 k)) i_118_65 hκ (⟨rfl, rfl, by decide⟩ : isAr 155 60) (by omega) (by decide) (rfl) ?_
          refine w_load i_118_66 rfl rfl ?_
          refine w_if2n ((M 155 k) = v) i_118_67 cI_ne ?_ ?_
          · intro h21
            refine w_push i_118_70 rfl ?_
            refine w_goto i_118_71 ?_
            exact (by first | exact (K2) | (have K9 := K2; simp only [↓if_neg h15, ↓if_neg h19, ↓if_pos h20, ↓if_pos h21] at K9 ⊢; exact (K9)))
          · intro h22
            refine w_push i_118_74 rfl ?_
            exact (by first | exact (K2) | (have K9 := K2; simp only [↓if_neg h15, ↓if_neg h19, ↓if_pos h20, ↓if_neg h22] at K9 ⊢; exact (K9)))
        · intro h23
          refine w_load i_118_43 rfl rfl ?_
          refine w_push i_118_44 rfl ?_
          refine w_if2 ((M 152 k) = 5) i_118_45 cI_eq ?_ ?_
          · intro h24
            refine w_load i_118_60 rfl rfl ?_
            refine w_getR 155 i_118_61 hκ (⟨rfl, by decide⟩ : isOb 134 7) rfl rfl ?_
            refine w_load i_118_64 rfl rfl ?_
            refine w_ialdN (e := k) (v := (M 155 k)) i_118_65 hκ (⟨rfl, rfl, by decide⟩ : isAr 155 60) (by omega) (by decide) (rfl) ?_
            refine w_load i_118_66 rfl rfl ?_
            refine w_if2n ((M 155 k) = v) i_118_67 cI_ne ?_ ?_
            · intro h25
              refine w_push i_118_70 rfl ?_
              refine w_goto i_118_71 ?_
              exact (by first | exact (K2) | (have K9 := K2; simp only [↓if_neg h15, ↓if_neg h19, ↓if_neg h23, ↓if_pos h24, ↓if_pos h25] at K9 ⊢; exact (K9)))
            · intro h26
              refine w_push i_118_74 rfl ?_
              exact (by first | exact (K2) | (have K9 := K2; simp only [↓if_neg h15, ↓if_neg h19, ↓if_neg h23, ↓if_pos h24, ↓if_neg h26] at K9 ⊢; exact (K9)))
          · intro h27
            refine w_load i_118_48 rfl rfl ?_
            refine w_push i_118_49 rfl ?_
            refine w_if2 ((M 152 k) = 6) i_118_51 cI_eq ?_ ?_
            · intro h28
              refine w_load i_118_60 rfl rfl ?_
              refine w_getR 155 i_118_61 hκ (⟨rfl, by decide⟩ : isOb 134 7) rfl rfl ?_
              refine w_load i_118_64 rfl rfl ?_
              refine w_ialdN (e := k) (v := (M 155 k)) i_118_65 hκ (⟨rfl, rfl, by decide⟩ : isAr 155 60) (by omega) (by decide) (rfl) ?_
              refine w_load i_118_66 rfl rfl ?_
              refine w_if2n ((M 155 k) = v) i_118_67 cI_ne ?_ ?_
              · intro h29
                refine w_push i_118_70 rfl ?_
                refine w_goto i_118_71 ?_
                exact (by first | exact (K2) | (have K9 := K2; simp only [↓if_neg h15, ↓if_neg h19, ↓if_neg h23, ↓if_neg h27, ↓if_pos h28, ↓if_pos h29] at K9 ⊢; exact (K9)))
              · intro h30
                refine w_push i_118_74 rfl ?_
                exact (by first | exact (K2) | (have K9 := K2; simp only [↓if_neg h15, ↓if_neg h19, ↓if_neg h23, ↓if_neg h27, ↓if_pos h28, ↓if_neg h30] at K9 ⊢; exact (K9)))
            · intro h31
              refine w_load i_118_54 rfl rfl ?_
              refine w_push i_118_55 rfl ?_
              refine w_if2n ((M 152 k) = 8) i_118_57 cI_ne ?_ ?_
              · intro h32
                refine w_load i_118_60 rfl rfl ?_
                refine w_getR 155 i_118_61 hκ (⟨rfl, by decide⟩ : isOb 134 7) rfl rfl ?_
                refine w_load i_118_64 rfl rfl ?_
                refine w_ialdN (e := k) (v := (M 155 k)) i_118_65 hκ (⟨rfl, rfl, by decide⟩ : isAr 155 60) (by omega) (by decide) (rfl) ?_
                refine w_load i_118_66 rfl rfl ?_
                refine w_if2n ((M 155 k) = v) i_118_67 cI_ne ?_ ?_
                · intro h33
                  refine w_push i_118_70 rfl ?_
                  refine w_goto i_118_71 ?_
                  exact (by first | exact (K2) | (have K9 := K2; simp only [↓if_neg h15, ↓if_neg h19, ↓if_neg h23, ↓if_neg h27, ↓if_neg h31, ↓if_pos h32, ↓if_pos h33] at K9 ⊢; exact (K9)))
                · intro h34
                  refine w_push i_118_74 rfl ?_
                  exact (by first | exact (K2) | (have K9 := K2; simp only [↓if_neg h15, ↓if_neg h19, ↓if_neg h23, ↓if_neg h27, ↓if_neg h31, ↓if_pos h32, ↓if_neg h34] at K9 ⊢; exact (K9)))
              · intro h35
                refine w_push i_118_74 rfl ?_
                exact (by first | exact (K2) | (have K9 := K2; simp only [↓if_neg h15, ↓if_neg h19, ↓if_neg h23, ↓if_neg h27, ↓if_neg h31, ↓if_neg h35] at K9 ⊢; exact (K9)))
  refine w_if0 ((M 152 k) = 0) i_118_8 cI0_eq ?_ ?_
  · intro h36
    refine w_push i_118_25 rfl ?_
    exact (by first | exact (K1) | (have K9 := K1; simp only [↓if_pos h36] at K9 ⊢; exact (K9)))
  · intro h37
    refine w_load i_118_11 rfl rfl ?_
    refine w_getR 154 i_118_12 hκ (⟨rfl, by decide⟩ : isOb 134 7) rfl rfl ?_
    refine w_load i_118_15 rfl rfl ?_
    refine w_ialdN (e := k) (v := (M 154 k)) i_118_16 hκ (⟨rfl, rfl, by decide⟩ : isAr 154 60) (by omega) (by decide) (rfl) ?_
    refine w_load i_118_17 rfl rfl ?_
    refine w_if2n ((M 154 k) = v) i_118_18 cI_ne ?_ ?_
    · intro h38
      refine w_push i_118_21 rfl ?_
      refine w_goto i_118_22 ?_
      exact (by first | exact (K1) | (have K9 := K1; simp only [↓if_neg h37, ↓if_pos h38] at K9 ⊢; exact (K9)))
    · intro h39
      refine w_push i_118_25 rfl ?_
      exact (by first | exact (K1) | (have K9 := K1; simp only [↓if_neg h37, ↓if_neg h39] at K9 ⊢; exact (K9)))
theorem c118 (hκ : Rd κ) {k : Nat} (hk : k < 60) {c : Int32} {a : Int32} {d : Int32} {g : Int32} {v : Int32} (e0 : M 152 k = c) (e1 : M 154 k = a) (e2 : M 155 k = d) (e3 : M 157 k = g) : Run 118 (0, entL 118 [.ref 134, .int (nI k), .int v], [], M, κ) (.inl (some (.int (bI (rdM c a d g v)))), M, κ) := by
  subst e0 e1 e2 e3
  exact RT_run (S118_0 hκ hk (by simp only [rdM]; congr 5; grind))
theorem i_119_0 : ins 119 0 = some (.aload_n 0, 1, 0, 0, 0, 0) := rfl
theorem i_119_1 : ins 119 1 = some (.getfield 81, 4, 7, 27, 0, 0) := rfl
theorem i_119_4 : ins 119 4 = some (.iload_n 1, 5, 1, 0, 0, 0) := rfl
theorem i_119_5 : ins 119 5 = some (.iaload, 6, 0, 0, 0, 0) := rfl
theorem i_119_6 : ins 119 6 = some (.bipush 7, 8, 0, 0, 0, 7) := rfl
theorem i_119_8 : ins 119 8 = some (.if_icmp .eq 14, 11, 22, 0, 0, 0) := rfl
theorem i_119_11 : ins 119 11 = some (.aload_n 0, 12, 0, 0, 0, 0) := rfl
theorem i_119_12 : ins 119 12 = some (.getfield 81, 15, 7, 27, 0, 0) := rfl
theorem i_119_15 : ins 119 15 = some (.iload_n 1, 16, 1, 0, 0, 0) := rfl
theorem i_119_16 : ins 119 16 = some (.iaload, 17, 0, 0, 0, 0) := rfl
theorem i_119_17 : ins 119 17 = some (.bipush 8, 19, 0, 0, 0, 8) := rfl
theorem i_119_19 : ins 119 19 = some (.if_icmp .ne 7, 22, 26, 0, 0, 0) := rfl
theorem i_119_22 : ins 119 22 = some (.iconst 1, 23, 0, 0, 0, 1) := rfl
theorem i_119_23 : ins 119 23 = some (.goto 4, 26, 27, 0, 0, 0) := rfl
theorem i_119_26 : ins 119 26 = some (.iconst 0, 27, 0, 0, 0, 0) := rfl
theorem i_119_27 : ins 119 27 = some (.ireturn, 28, 0, 0, 0, 0) := rfl
theorem S119_0 {Q : Ou → Prop} {M : Mem} {κ : Kp} (hκ : Rd κ) {k : Nat} (hk : k < 60) 
    (k1 : Q (.inl (some (.int (bI (if (M 152 k) = 7 then true else (if (M 152 k) = 8 then true else false))))), M, κ))
    : RT 119 (0, [.ref 134, .int (nI k)], [], M, κ) Q := by
  refine w_load i_119_0 rfl rfl ?_
  refine w_getR 152 i_119_1 hκ (⟨rfl, by decide⟩ : isOb 134 7) rfl rfl ?_
  refine w_load i_119_4 rfl rfl ?_
  refine w_ialdN (e := k) (v := (M 152 k)) i_119_5 hκ (⟨rfl, rfl, by decide⟩ : isAr 152 60) (by omega) (by decide) (rfl) ?_
  refine w_push i_119_6 rfl ?_
  have K1 : RT 119 (27, [.ref 134, .int (nI k)], [.int (bI (if (M 152 k) = 7 then true else (if (M 152 k) = 8 then true else false)))], M, κ) Q := by
    exact w_iret i_119_27 (.inr ⟨rfl, isB_bI _⟩) (k1)
  refine w_if2 ((M 152 k) = 7) i_119_8 cI_eq ?_ ?_
  · intro h2
    refine w_push i_119_22 rfl ?_
    refine w_goto i_119_23 ?_
    exact (by first | exact (K1) | (have K9 := K1; simp only [↓if_pos h2] at K9 ⊢; exact (K9)))
  · intro h3
    refine w_load i_119_11 rfl rfl ?_
    refine w_getR 152 i_119_12 hκ (⟨rfl, by decide⟩ : isOb 134 7) rfl rfl ?_
    refine w_load i_119_15 rfl rfl ?_
    refine w_ialdN (e := k) (v := (M 152 k)) i_119_16 hκ (⟨rfl, rfl, by decide⟩ : isAr 152 60) (by omega) (by decide) (rfl) ?_
    refine w_push i_119_17 rfl ?_
    refine w_if2n ((M 152 k) = 8) i_119_19 cI_ne ?_ ?_
    · intro h4
      refine w_push i_119_22 rfl ?_
      refine w_goto i_119_23 ?_
      exact (by first | exact (K1) | (have K9 := K1; simp only [↓if_neg h3, ↓if_pos h4] at K9 ⊢; exact (K9)))
    · intro h5
      refine w_push i_119_26 rfl ?_
      exact (by first | exact (K1) | (have K9 := K1; simp only [↓if_neg h3, ↓if_neg h5] at K9 ⊢; exact (K9)))
theorem c119 (hκ : Rd κ) {k : Nat} (hk : k < 60) {c : Int32} (e0 : M 152 k = c) : Run 119 (0, entL 119 [.ref 134, .int (nI k)], [], M, κ) (.inl (some (.int (bI (memF c)))), M, κ) := by
  subst e0
  exact RT_run (S119_0 hκ hk (by simp only [memF]; congr 5; grind))
theorem i_120_0 : ins 120 0 = some (.aload_n 0, 1, 0, 0, 0, 0) := rfl
theorem i_120_1 : ins 120 1 = some (.getfield 81, 4, 7, 27, 0, 0) := rfl
theorem i_120_4 : ins 120 4 = some (.iload_n 1, 5, 1, 0, 0, 0) := rfl
theorem i_120_5 : ins 120 5 = some (.iaload, 6, 0, 0, 0, 0) := rfl
theorem i_120_6 : ins 120 6 = some (.bipush 6, 8, 0, 0, 0, 6) := rfl
theorem i_120_8 : ins 120 8 = some (.if_icmp .ne 40, 11, 48, 0, 0, 0) := rfl
theorem i_120_11 : ins 120 11 = some (.aload_n 0, 12, 0, 0, 0, 0) := rfl
theorem i_120_12 : ins 120 12 = some (.getfield 81, 15, 7, 27, 0, 0) := rfl
theorem i_120_15 : ins 120 15 = some (.iload_n 2, 16, 2, 0, 0, 0) := rfl
theorem i_120_16 : ins 120 16 = some (.iaload, 17, 0, 0, 0, 0) := rfl
theorem i_120_17 : ins 120 17 = some (.bipush 6, 19, 0, 0, 0, 6) := rfl
theorem i_120_19 : ins 120 19 = some (.if_icmp .eq 25, 22, 44, 0, 0, 0) := rfl
theorem i_120_22 : ins 120 22 = some (.aload_n 0, 23, 0, 0, 0, 0) := rfl
theorem i_120_23 : ins 120 23 = some (.getfield 81, 26, 7, 27, 0, 0) := rfl
theorem i_120_26 : ins 120 26 = some (.iload_n 2, 27, 2, 0, 0, 0) := rfl
theorem i_120_27 : ins 120 27 = some (.iaload, 28, 0, 0, 0, 0) := rfl
theorem i_120_28 : ins 120 28 = some (.bipush 9, 30, 0, 0, 0, 9) := rfl
theorem i_120_30 : ins 120 30 = some (.if_icmp .eq 14, 33, 44, 0, 0, 0) := rfl
theorem i_120_33 : ins 120 33 = some (.aload_n 0, 34, 0, 0, 0, 0) := rfl
theorem i_120_34 : ins 120 34 = some (.getfield 81, 37, 7, 27, 0, 0) := rfl
theorem i_120_37 : ins 120 37 = some (.iload_n 2, 38, 2, 0, 0, 0) := rfl
theorem i_120_38 : ins 120 38 = some (.iaload, 39, 0, 0, 0, 0) := rfl
theorem i_120_39 : ins 120 39 = some (.bipush 8, 41, 0, 0, 0, 8) := rfl
theorem i_120_41 : ins 120 41 = some (.if_icmp .ne 7, 44, 48, 0, 0, 0) := rfl
theorem i_120_44 : ins 120 44 = some (.iconst 1, 45, 0, 0, 0, 1) := rfl
theorem i_120_45 : ins 120 45 = some (.goto 4, 48, 49, 0, 0, 0) := rfl
theorem i_120_48 : ins 120 48 = some (.iconst 0, 49, 0, 0, 0, 0) := rfl
theorem i_120_49 : ins 120 49 = some (.istore_n 3, 50, 3, 0, 0, 0) := rfl
theorem i_120_50 : ins 120 50 = some (.aload_n 0, 51, 0, 0, 0, 0) := rfl
theorem i_120_51 : ins 120 51 = some (.getfield 81, 54, 7, 27, 0, 0) := rfl
theorem i_120_54 : ins 120 54 = some (.iload_n 2, 55, 2, 0, 0, 0) := rfl
theorem i_120_55 : ins 120 55 = some (.iaload, 56, 0, 0, 0, 0) := rfl
theorem i_120_56 : ins 120 56 = some (.bipush 6, 58, 0, 0, 0, 6) := rfl
theorem i_120_58 : ins 120 58 = some (.if_icmp .ne 29, 61, 87, 0, 0, 0) := rfl
theorem i_120_61 : ins 120 61 = some (.aload_n 0, 62, 0, 0, 0, 0) := rfl
theorem i_120_62 : ins 120 62 = some (.getfield 81, 65, 7, 27, 0, 0) := rfl
theorem i_120_65 : ins 120 65 = some (.iload_n 1, 66, 1, 0, 0, 0) := rfl
theorem i_120_66 : ins 120 66 = some (.iaload, 67, 0, 0, 0, 0) := rfl
theorem i_120_67 : ins 120 67 = some (.bipush 9, 69, 0, 0, 0, 9) := rfl
theorem i_120_69 : ins 120 69 = some (.if_icmp .eq 14, 72, 83, 0, 0, 0) := rfl
theorem i_120_72 : ins 120 72 = some (.aload_n 0, 73, 0, 0, 0, 0) := rfl
theorem i_120_73 : ins 120 73 = some (.getfield 81, 76, 7, 27, 0, 0) := rfl
theorem i_120_76 : ins 120 76 = some (.iload_n 1, 77, 1, 0, 0, 0) := rfl
theorem i_120_77 : ins 120 77 = some (.iaload, 78, 0, 0, 0, 0) := rfl
theorem i_120_78 : ins 120 78 = some (.bipush 8, 80, 0, 0, 0, 8) := rfl
theorem i_120_80 : ins 120 80 = some (.if_icmp .ne 7, 83, 87, 0, 0, 0) := rfl
theorem i_120_83 : ins 120 83 = some (.iconst 1, 84, 0, 0, 0, 1) := rfl
theorem i_120_84 : ins 120 84 = some (.goto 4, 87, 88, 0, 0, 0) := rfl
theorem i_120_87 : ins 120 87 = some (.iconst 0, 88, 0, 0, 0, 0) := rfl
theorem i_120_88 : ins 120 88 = some (.istore 4, 90, 4, 0, 0, 0) := rfl
theorem i_120_90 : ins 120 90 = some (.iload_n 3, 91, 3, 0, 0, 0) := rfl
theorem i_120_91 : ins 120 91 = some (.ifCond .ne 30, 94, 121, 0, 0, 0) := rfl
theorem i_120_94 : ins 120 94 = some (.iload 4, 96, 4, 0, 0, 0) := rfl
theorem i_120_96 : ins 120 96 = some (.ifCond .ne 25, 99, 121, 0, 0, 0) := rfl
theorem i_120_99 : ins 120 99 = some (.aload_n 0, 100, 0, 0, 0, 0) := rfl
theorem i_120_100 : ins 120 100 = some (.getfield 81, 103, 7, 27, 0, 0) := rfl
theorem i_120_103 : ins 120 103 = some (.iload_n 1, 104, 1, 0, 0, 0) := rfl
theorem i_120_104 : ins 120 104 = some (.iaload, 105, 0, 0, 0, 0) := rfl
theorem i_120_105 : ins 120 105 = some (.bipush 9, 107, 0, 0, 0, 9) := rfl
theorem i_120_107 : ins 120 107 = some (.if_icmp .ne 18, 110, 125, 0, 0, 0) := rfl
theorem i_120_110 : ins 120 110 = some (.aload_n 0, 111, 0, 0, 0, 0) := rfl
theorem i_120_111 : ins 120 111 = some (.getfield 81, 114, 7, 27, 0, 0) := rfl
theorem i_120_114 : ins 120 114 = some (.iload_n 2, 115, 2, 0, 0, 0) := rfl
theorem i_120_115 : ins 120 115 = some (.iaload, 116, 0, 0, 0, 0) := rfl
theorem i_120_116 : ins 120 116 = some (.bipush 9, 118, 0, 0, 0, 9) := rfl
theorem i_120_118 : ins 120 118 = some (.if_icmp .ne 7, 121, 125, 0, 0, 0) := rfl
theorem i_120_121 : ins 120 121 = some (.iconst 1, 122, 0, 0, 0, 1) := rfl
theorem i_120_122 : ins 120 122 = some (.goto 4, 125, 126, 0, 0, 0) := rfl
theorem i_120_125 : ins 120 125 = some (.iconst 0, 126, 0, 0, 0, 0) := rfl
theorem i_120_126 : ins 120 126 = some (.ireturn, 127, 0, 0, 0, 0) := rfl
theorem S120_0 {Q : Ou → Prop} {M : Mem} {κ : Kp} (hκ : Rd κ) {i j : Nat} (hi : i < 60) (hj : j < 60) 
    (k1 : Q (.inl (some (.int (bI (if (if (M 152 i) = 6 then (if (M 152 j) = 6 then true else (if (M 152 j) = 9 then true else (if (M 152 j) = 8 then true else false))) else false) = true then true else (if (if (M 152 j) = 6 then (if (M 152 i) = 9 then true else (if (M 152 i) = 8 then true else false)) else false) = true then true else (if (M 152 i) = 9 then (if (M 152 j) = 9 then true else false) else false)))))), M, κ))
    : RT 120 (0, [.ref 134, .int (nI i), .int (nI j), UU, UU], [], M, κ) Q := by
  refine w_load i_120_0 rfl rfl ?_
  refine w_getR 152 i_120_1 hκ (⟨rfl, by decide⟩ : isOb 134 7) rfl rfl ?_
  refine w_load i_120_4 rfl rfl ?_
  refine w_ialdN (e := i) (v := (M 152 i)) i_120_5 hκ (⟨rfl, rfl, by decide⟩ : isAr 152 60) (by omega) (by decide) (rfl) ?_
  refine w_push i_120_6 rfl ?_
  have K1 : RT 120 (49, [.ref 134, .int (nI i), .int (nI j), UU, UU], [.int (bI (if (M 152 i) = 6 then (if (M 152 j) = 6 then true else (if (M 152 j) = 9 then true else (if (M 152 j) = 8 then true else false))) else false))], M, κ) Q := by
    refine w_store (l1 := [.ref 134, .int (nI i), .int (nI j), .int (bI (if (M 152 i) = 6 then (if (M 152 j) = 6 then true else (if (M 152 j) = 9 then true else (if (M 152 j) = 8 then true else false))) else false)), UU]) i_120_49 rfl (Nat.le_of_ble_eq_true rfl) rfl ?_
    refine w_load i_120_50 rfl rfl ?_
    refine w_getR 152 i_120_51 hκ (⟨rfl, by decide⟩ : isOb 134 7) rfl rfl ?_
    refine w_load i_120_54 rfl rfl ?_
    refine w_ialdN (e := j) (v := (M 152 j)) i_120_55 hκ (⟨rfl, rfl, by decide⟩ : isAr 152 60) (by omega) (by decide) (rfl) ?_
    refine w_push i_120_56 rfl ?_
    have K2 : RT 120 (88, [.ref 134, .int (nI i), .int (nI j), .int (bI (if (M 152 i) = 6 then (if (M 152 j) = 6 then true else (if (M 152 j) = 9 then true else (if (M 152 j) = 8 then true else false))) else false)), UU], [.int (bI (if (M 152 j) = 6 then (if (M 152 i) = 9 then true else (if (M 152 i) = 8 then true else false)) else false))], M, κ) Q := by
      refine w_store (l1 := [.ref 134, .int (nI i), .int (nI j), .int (bI (if (M 152 i) = 6 then (if (M 152 j) = 6 then true else (if (M 152 j) = 9 then true else (if (M 152 j) = 8 then true else false))) else false)), .int (bI (if (M 152 j) = 6 then (if (M 152 i) = 9 then true else (if (M 152 i) = 8 then true else false)) else false))]) i_120_88 rfl (Nat.le_of_ble_eq_true rfl) rfl ?_
      refine w_load i_120_90 rfl rfl ?_
      have K3 : RT 120 (126, [.ref 134, .int (nI i), .int (nI j), .int (bI (if (M 152 i) = 6 then (if (M 152 j) = 6 then true else (if (M 152 j) = 9 then true else (if (M 152 j) = 8 then true else false))) else false)), .int (bI (if (M 152 j) = 6 then (if (M 152 i) = 9 then true else (if (M 152 i) = 8 then true else false)) else false))], [.int (bI (if (if (M 152 i) = 6 then (if (M 152 j) = 6 then true else (if (M 152 j) = 9 then true else (if (M 152 j) = 8 then true else false))) else false) = true then true else (if (if (M 152 j) = 6 then (if (M 152 i) = 9 then true else (if (M 152 i) = 8 then true else false)) else false) = true then true else (if (M 152 i) = 9 then (if (M 152 j) = 9 then true else false) else false))))], M, κ) Q := by
        exact w_iret i_120_126 (.inr ⟨rfl, isB_bI _⟩) (k1)
      refine w_if0 ((if (M 152 i) = 6 then (if (M 152 j) = 6 then true else (if (M 152 j) = 9 then true else (if (M 152 j) = 8 then true else false))) else false) = true) i_120_91 cB_ne ?_ ?_
      · intro h4
        refine w_push i_120_121 rfl ?_
        refine w_goto i_120_122 ?_
        exact (by first | exact (K3) | (have K9 := K3; simp only [↓if_pos h4] at K9 ⊢; exact (K9)))
      · intro h5
        refine w_load i_120_94 rfl rfl ?_
        refine w_if0 ((if (M 152 j) = 6 then (if (M 152 i) = 9 then true else (if (M 152 i) = 8 then true else false)) else false) = true) i_120_96 cB_ne ?_ ?_
        · intro h6
          refine w_push i_120_121 rfl ?_
          refine w_goto i_120_122 ?_
          exact (by first | exact (K3) | (have K9 := K3; simp only [↓if_neg h5, ↓if_pos h6] at K9 ⊢; exact (K9)))
        · intro h7
          refine w_load i_120_99 rfl rfl ?_
          refine w_getR 152 i_120_100 hκ (⟨rfl, by decide⟩ : isOb 134 7) rfl rfl ?_
          refine w_load i_120_103 rfl rfl ?_
          refine w_ialdN (e := i) (v := (M 152 i)) i_120_104 hκ (⟨rfl, rfl, by decide⟩ : isAr 152 60) (by omega) (by decide) (rfl) ?_
          refine w_push i_120_105 rfl ?_
          refine w_if2n ((M 152 i) = 9) i_120_107 cI_ne ?_ ?_
          · intro h8
            refine w_load i_120_110 rfl rfl ?_
            refine w_getR 152 i_120_111 hκ (⟨rfl, by decide⟩ : isOb 134 7) rfl rfl ?_
            refine w_load i_120_114 rfl rfl ?_
            refine w_ialdN (e := j) (v := (M 152 j)) i_120_115 hκ (⟨rfl, rfl, by decide⟩ : isAr 152 60) (by omega) (by decide) (rfl) ?_
            refine w_push i_120_116 rfl ?_
            refine w_if2n ((M 152 j) = 9) i_120_118 cI_ne ?_ ?_
            · intro h9
              refine w_push i_120_121 rfl ?_
              refine w_goto i_120_122 ?_
              exact (by first | exact (K3) | (have K9 := K3; simp only [↓if_neg h5, ↓if_neg h7, ↓if_pos h8, ↓if_pos h9] at K9 ⊢; exact (K9)))
            · intro h10
              refine w_push i_120_125 rfl ?_
              exact (by first | exact (K3) | (have K9 := K3; simp only [↓if_neg h5, ↓if_neg h7, ↓if_pos h8, ↓if_neg h10] at K9 ⊢; exact (K9)))
          · intro h11
            refine w_push i_120_125 rfl ?_
            exact (by first | exact (K3) | (have K9 := K3; simp only [↓if_neg h5, ↓if_neg h7, ↓if_neg h11] at K9 ⊢; exact (K9)))
    refine w_if2n ((M 152 j) = 6) i_120_58 cI_ne ?_ ?_
    · intro h12
      refine w_load i_120_61 rfl rfl ?_
      refine w_getR 152 i_120_62 hκ (⟨rfl, by decide⟩ : isOb 134 7) rfl rfl ?_
      refine w_load i_120_65 rfl rfl ?_
      refine w_ialdN (e := i) (v := (M 152 i)) i_120_66 hκ (⟨rfl, rfl, by decide⟩ : isAr 152 60) (by omega) (by decide) (rfl) ?_
      refine w_push i_120_67 rfl ?_
      refine w_if2 ((M 152 i) = 9) i_120_69 cI_eq ?_ ?_
      · intro h13
        refine w_push i_120_83 rfl ?_
        refine w_goto i_120_84 ?_
        exact (by first | exact (K2) | (have K9 := K2; simp only [↓if_pos h12, ↓if_pos h13] at K9 ⊢; exact (K9)))
      · intro h14
        refine w_load i_120_72 rfl rfl ?_
        refine w_getR 152 i_120_73 hκ (⟨rfl, by decide⟩ : isOb 134 7) rfl rfl ?_
        refine w_load i_120_76 rfl rfl ?_
        refine w_ialdN (e := i) (v := (M 152 i)) i_120_77 hκ (⟨rfl, rfl, by decide⟩ : isAr 152 60) (by omega) (by decide) (rfl) ?_
        refine w_push i_120_78 rfl ?_
        refine w_if2n ((M 152 i) = 8) i_120_80 cI_ne ?_ ?_
        · intro h15
          refine w_push i_120_83 rfl ?_
          refine w_goto i_120_84 ?_
          exact (by first | exact (K2) | (have K9 := K2; simp only [↓if_pos h12, ↓if_neg h14, ↓if_pos h15] at K9 ⊢; exact (K9)))
        · intro h16
          refine w_push i_120_87 rfl ?_
          exact (by first | exact (K2) | (have K9 := K2; simp only [↓if_pos h12, ↓if_neg h14, ↓if_neg h16] at K9 ⊢; exact (K9)))
    · intro h17
      refine w_push i_120_87 rfl ?_
      exact (by first | exact (K2) | (have K9 := K2; simp only [↓if_neg h17] at K9 ⊢; exact (K9)))
  refine w_if2n ((M 152 i) = 6) i_120_8 cI_ne ?_ ?_
  · intro h18
    refine w_load i_120_11 rfl rfl ?_
    refine w_getR 152 i_120_12 hκ (⟨rfl, by decide⟩ : isOb 134 7) rfl rfl ?_
    refine w_load i_120_15 rfl rfl ?_
    refine w_ialdN (e := j) (v := (M 152 j)) i_120_16 hκ (⟨rfl, rfl, by decide⟩ : isAr 152 60) (by omega) (by decide) (rfl) ?_
    refine w_push i_120_17 rfl ?_
    refine w_if2 ((M 152 j) = 6) i_120_19 cI_eq ?_ ?_
    · intro h19
      refine w_push i_120_44 rfl ?_
      refine w_goto i_120_45 ?_
      exact (by first | exact (K1) | (have K9 := K1; simp only [↓if_pos h18, ↓if_pos h19] at K9 ⊢; exact (K9)))
    · intro h20
      refine w_load i_120_22 rfl rfl ?_
      refine w_getR 152 i_120_23 hκ (⟨rfl, by decide⟩ : isOb 134 7) rfl rfl ?_
      refine w_load i_120_26 rfl rfl ?_
      refine w_ialdN (e := j) (v := (M 152 j)) i_120_27 hκ (⟨rfl, rfl, by decide⟩ : isAr 152 60) (by omega) (by decide) (rfl) ?_
      refine w_push i_120_28 rfl ?_
      refine w_if2 ((M 152 j) = 9) i_120_30 cI_eq ?_ ?_
      · intro h21
        refine w_push i_120_44 rfl ?_
        refine w_goto i_120_45 ?_
        exact (by first | exact (K1) | (have K9 := K1; simp only [↓if_pos h18, ↓if_neg h20, ↓if_pos h21] at K9 ⊢; exact (K9)))
      · intro h22
        refine w_load i_120_33 rfl rfl ?_
        refine w_getR 152 i_120_34 hκ (⟨rfl, by decide⟩ : isOb 134 7) rfl rfl ?_
        refine w_load i_120_37 rfl rfl ?_
        refine w_ialdN (e := j) (v := (M 152 j)) i_120_38 hκ (⟨rfl, rfl, by decide⟩ : isAr 152 60) (by omega) (by decide) (rfl) ?_
        refine w_push i_120_39 rfl ?_
        refine w_if2n ((M 152 j) = 8) i_120_41 cI_ne ?_ ?_
        · intro h23
          refine w_push i_120_44 rfl ?_
          refine w_goto i_120_45 ?_
          exact (by first | exact (K1) | (have K9 := K1; simp only [↓if_pos h18, ↓if_neg h20, ↓if_neg h22, ↓if_pos h23] at K9 ⊢; exact (K9)))
        · intro h24
          refine w_push i_120_48 rfl ?_
          exact (by first | exact (K1) | (have K9 := K1; simp only [↓if_pos h18, ↓if_neg h20, ↓if_neg h22, ↓if_neg h24] at K9 ⊢; exact (K9)))
  · intro h25
    refine w_push i_120_48 rfl ?_
    exact (by first | exact (K1) | (have K9 := K1; simp only [↓if_neg h25] at K9 ⊢; exact (K9)))
theorem c120 (hκ : Rd κ) {i j : Nat} (hi : i < 60) (hj : j < 60) {c : Int32} {d : Int32} (e0 : M 152 i = c) (e1 : M 152 j = d) : Run 120 (0, entL 120 [.ref 134, .int (nI i), .int (nI j)], [], M, κ) (.inl (some (.int (bI (ordF c d)))), M, κ) := by
  subst e0 e1
  exact RT_run (S120_0 hκ hi hj (by simp only [ordF]; congr 5; grind))
theorem i_130_0 : ins 130 0 = some (.aload_n 0, 1, 0, 0, 0, 0) := rfl
theorem i_130_1 : ins 130 1 = some (.iload_n 1, 2, 1, 0, 0, 0) := rfl
theorem i_130_2 : ins 130 2 = some (.invokevirtual 259, 5, 116, 0, 2, 0) := rfl
theorem i_130_5 : ins 130 5 = some (.ifCond .eq 10, 8, 15, 0, 0, 0) := rfl
theorem i_130_8 : ins 130 8 = some (.aload_n 0, 9, 0, 0, 0, 0) := rfl
theorem i_130_9 : ins 130 9 = some (.getfield 13, 12, 7, 2, 0, 0) := rfl
theorem i_130_12 : ins 130 12 = some (.goto 7, 15, 19, 0, 0, 0) := rfl
theorem i_130_15 : ins 130 15 = some (.aload_n 0, 16, 0, 0, 0, 0) := rfl
theorem i_130_16 : ins 130 16 = some (.getfield 7, 19, 7, 1, 0, 0) := rfl
theorem i_130_19 : ins 130 19 = some (.ireturn, 20, 0, 0, 0, 0) := rfl
theorem S130_0 {Q : Ou → Prop} {M : Mem} {κ : Kp} (hκ : Rd κ) {k : Nat} (hk : k < 60) 
    (k1 : Q (.inl (some (.int (if (isP (M 152 k)) = true then (M 134 2) else (M 134 1)))), M, κ))
    : RT 130 (0, [.ref 134, .int (nI k)], [], M, κ) Q := by
  refine w_load i_130_0 rfl rfl ?_
  refine w_load i_130_1 rfl rfl ?_
  refine w_callV (i := _) i_130_2 ⟨by decide, by decide, by decide, rfl⟩ hκ (⟨rfl, by decide⟩ : isOb 134 7) (av := [.int (nI k)]) (rest := []) rfl rfl (Nat.le_of_ble_eq_true rfl) (v := some (.int (bI (isP (M 152 k))))) (c116 hκ (by omega) (rfl)) ?_
  have K1 : RT 130 (19, [.ref 134, .int (nI k)], [.int (if (isP (M 152 k)) = true then (M 134 2) else (M 134 1))], M, κ) Q := by
    exact w_iret i_130_19 (.inl rfl) (k1)
  refine w_if0n ((isP (M 152 k)) = true) i_130_5 cB_eq ?_ ?_
  · intro h2
    refine w_load i_130_8 rfl rfl ?_
    refine w_getI (v := (M 134 2)) i_130_9 hκ (⟨rfl, by decide⟩ : isOb 134 7) rfl (rfl) ?_
    refine w_goto i_130_12 ?_
    exact (by first | exact (K1) | (have K9 := K1; simp only [↓if_pos h2] at K9 ⊢; exact (K9)))
  · intro h3
    refine w_load i_130_15 rfl rfl ?_
    refine w_getI (v := (M 134 1)) i_130_16 hκ (⟨rfl, by decide⟩ : isOb 134 7) rfl (rfl) ?_
    exact (by first | exact (K1) | (have K9 := K1; simp only [↓if_neg h3] at K9 ⊢; exact (K9)))
theorem c130 (hκ : Rd κ) {k : Nat} (hk : k < 60) {c : Int32} {po : Int32} {al : Int32} (e0 : M 152 k = c) (e1 : M 134 2 = po) (e2 : M 134 1 = al) : Run 130 (0, entL 130 [.ref 134, .int (nI k)], [], M, κ) (.inl (some (.int (if isP c = true then po else al))), M, κ) := by
  subst e0 e1 e2
  exact RT_run (S130_0 hκ hk rfl)
end P_20_leaf
