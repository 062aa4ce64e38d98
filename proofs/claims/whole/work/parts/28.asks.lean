/-! LOOPS; THE EDGES OF THE MODEL, WEIGHED -/
section P_28_asks
variable {Q : Ou → Prop} {M M0 : Mem} {κ : Kp}
/-- a loop that counts up, with an invariant -/
theorem loopI {α : Type} {n : Nat} (T I : Nat → α → Prop) (hs : ∀ j a, j < n → I j a → (∀ b, I (j + 1) b → T (j + 1) b) → T j a) (he : ∀ a, I n a → T n a) : ∀ j a, j ≤ n → I j a → T j a := by
  have h : ∀ d j a, j + d = n → I j a → T j a := by
    intro d
    induction d with
    | zero =>
      intro j a hj hI
      have e : j = n := by omega
      subst e
      exact he a hI
    | succ d ih => exact fun j a hj hI => hs j a (by omega) hI (fun b hb => ih (j + 1) b (by omega) hb)
  exact fun j a hj => h (n - j) j a (by omega)
def fo {α : Type} (f : Nat → α → α) (a : α) : Nat → α
  | 0 => a
  | j + 1 => f j (fo f a j)
/-- a loop that counts up and folds -/
theorem loopF {α : Type} {n : Nat} (T : Nat → α → Prop) (f : Nat → α → α) (a : α) (hs : ∀ j b, j < n → T (j + 1) (f j b) → T j b) (he : T n (fo f a n)) : T 0 a :=
  loopI (n := n) T (fun j b => b = fo f a j) (fun j b hj e k => hs j b hj (k _ (by rw [e]; rfl))) (fun b e => e ▸ he) 0 a (Nat.zero_le n) rfl
theorem fo_congr {α : Type} {f g : Nat → α → α} {a : α} {n : Nat} (h : ∀ j b, j < n → f j b = g j b) : fo f a n = fo g a n := by
  induction n with
  | zero => rfl
  | succ n ih =>
    show f n (fo f a n) = g n (fo g a n)
    rw [ih (fun j b hj => h j b (by omega)), h n _ (Nat.lt_succ_self n)]
/-- take the value of an edge, if there is one -/
def ow (o : Option Int32) (m : Int32) (g : Int32 → Int32) : Int32 := match o with
  | none => m
  | some w => g w
theorem enc_ne {s : Int32} {w : Int32} (h : s.toInt < w.toInt) : ¬ w = s := fun e => by
  rw [e] at h
  omega
theorem enc_ow {s m : Int32} {o : Option Int32} (h : oab s o) (g : Int32 → Int32) : (if enc s o = s then m else g (enc s o)) = ow o m g := by
  match o, h with
  | none, h => exact if_pos rfl
  | some w, h => exact if_neg (enc_ne (h w rfl))
theorem enc_is {s : Int32} {o : Option Int32} (h : oab s o) : enc s o = s ↔ o = none := by
  match o, h with
  | none, h => exact ⟨fun _ => rfl, fun _ => rfl⟩
  | some w, h => exact ⟨fun e => absurd e (enc_ne (h w rfl)), fun e => by cases e⟩
/-- the edges of the model, up to i, j -/
def GM (M : Mem) (n : Nat) (lp : Bool) (O : Op) (L : Nat → Int32) (i j : Nat) : Prop := ∀ i' j', i' < n → j' < n → (i' < i ∨ (i' = i ∧ j' < j)) → M 165 (10 * i' + j') = enc (-100000) ((uE L O lp i' j').map (fun p => p.1)) ∧ M 166 (10 * i' + j') = enc (-100000) ((mE O n lp i' j').map (fun p => p.1)) ∧ M 167 (10 * i' + j') = enc (-100000) ((mE O n lp i' j').map (fun p => p.2))
theorem GM_eq {M' : Mem} {n : Nat} {lp : Bool} {O : Op} {L : Nat → Int32} {i j : Nat} (h : GM M n lp O L i j) (he : ∀ o x, 165 ≤ o ∧ o ≤ 167 → M' o x = M o x) : GM M' n lp O L i j := by
  intro a c ha hc hh
  obtain ⟨h1, h2, h3⟩ := h a c ha hc hh
  exact ⟨(he _ _ (by decide)).trans h1, (he _ _ (by decide)).trans h2, (he _ _ (by decide)).trans h3⟩
def is8 (c : Int32) : Int32 := if c = 8 then 1 else 0
/-- what the model stores -/
def gu (L : Nat → Int32) (O : Op) (lp : Bool) (i j : Nat) : Int32 := enc (-100000) ((uE L O lp i j).map (fun p => p.1))
def gm1 (O : Op) (n : Nat) (lp : Bool) (i j : Nat) : Int32 := enc (-100000) ((mE O n lp i j).map (fun p => p.1))
def gm2 (O : Op) (n : Nat) (lp : Bool) (i j : Nat) : Int32 := enc (-100000) ((mE O n lp i j).map (fun p => p.2))
theorem l_is {i j : Nat} {e : Int32} : ((if i < j then true else (if e = 3 then true else false)) = true) ↔ (i < j ∨ decide (e = 3) = true) := by
  by_cases h : i < j <;> by_cases h2 : e = 3 <;> simp [h, h2]
theorem l_acc {i j : Nat} {e : Int32} {O : Op} : ((if (if i < j then true else (if e = 3 then true else false)) = true then (if (memF (O 0 i)) = true then (if (memF (O 0 j)) = true then (if (O 0 i) = 8 then true else (if (O 0 j) = 8 then true else false)) else false) else false) else false) = true) ↔ ((i < j ∨ decide (e = 3) = true) ∧ acc O i j = true) := by
  rw [← l_is]
  unfold acc
  generalize (if i < j then true else (if e = 3 then true else false)) = z
  simp only [decide_eq_true_eq]
  generalize memF (O 0 i) = a
  generalize memF (O 0 j) = c
  by_cases h1 : O 0 i = 8 <;> by_cases h2 : O 0 j = 8 <;> simp [h1, h2] <;> cases z <;> cases a <;> cases c <;> decide
theorem uE_map {L : Nat → Int32} {O : Op} {lp : Bool} {i j : Nat} (h : i < j ∨ lp = true) : gu L O lp i j = enc (-100000) (usO L O i j) := by
  unfold gu uE
  rw [if_pos h]
  cases usO L O i j <;> rfl
theorem mE_map {O : Op} {n : Nat} {lp : Bool} {i j : Nat} (h : (i < j ∨ lp = true) ∧ acc O i j = true) : gm2 O n lp i j = rsM (mtF O n lp i j) ∧ gm1 O n lp i j = (if rsM (mtF O n lp i j) = -100000 then (-100000) else is8 (O 0 i)) := by
  unfold gm2 gm1 mE
  by_cases q : mtF O n lp i j = -1
  · rw [if_neg (fun z => z.2.2 q), q]
    exact ⟨rfl, rfl⟩
  · rw [if_pos ⟨h.1, h.2, q⟩]
    have hr := mt_rng q
    have e : rsM (mtF O n lp i j) = mtF O n lp i j := if_neg q
    rw [e, if_neg (enc_ne (s := -100000) (by rw [cNV]; omega))]
    exact ⟨rfl, rfl⟩
theorem mE_map0 {O : Op} {n : Nat} {lp : Bool} {i j : Nat} (h : ¬ ((i < j ∨ lp = true) ∧ acc O i j = true)) : gm2 O n lp i j = -100000 ∧ gm1 O n lp i j = -100000 := by
  unfold gm2 gm1 mE
  rw [if_neg (fun z => h ⟨z.1, z.2.1⟩)]
  exact ⟨rfl, rfl⟩
theorem i_126_0 : ins 126 0 = some (.iconst 0, 1, 0, 0, 0, 0) := rfl
theorem i_126_1 : ins 126 1 = some (.istore_n 2, 2, 2, 0, 0, 0) := rfl
theorem i_126_2 : ins 126 2 = some (.iload_n 2, 3, 2, 0, 0, 0) := rfl
theorem i_126_3 : ins 126 3 = some (.aload_n 0, 4, 0, 0, 0, 0) := rfl
theorem i_126_4 : ins 126 4 = some (.getfield 78, 7, 7, 26, 0, 0) := rfl
theorem i_126_7 : ins 126 7 = some (.iload_n 1, 8, 1, 0, 0, 0) := rfl
theorem i_126_8 : ins 126 8 = some (.iaload, 9, 0, 0, 0, 0) := rfl
theorem i_126_9 : ins 126 9 = some (.if_icmp .ge 222, 12, 231, 0, 0, 0) := rfl
theorem i_126_12 : ins 126 12 = some (.iconst 0, 13, 0, 0, 0, 0) := rfl
theorem i_126_13 : ins 126 13 = some (.istore_n 3, 14, 3, 0, 0, 0) := rfl
theorem i_126_231 : ins 126 231 = some (.return_, 232, 0, 0, 0, 0) := rfl
theorem S126_0 {Q : Ou → Prop} {M : Mem} {κ : Kp} (hκ : Rd κ) {x n i j : Nat} {O : Op} {e : Int32} (hx : x < 6) (hn : n ≤ 10) (hi : i ≤ n) (hj : j ≤ n) (hc : M 151 x = nI n) (he : M 147 x = e) (hO : ∀ f, f < 6 → ∀ j, j < n → M (152 + f) (10 * x + j) = O f j) 
    (k1 : RT 126 (2, [.ref 134, .int (nI x), .int (nI 0), UU, UU, UU, UU, UU, UU], [], M, κ) Q)
    : RT 126 (0, [.ref 134, .int (nI x), UU, UU, UU, UU, UU, UU, UU], [], M, κ) Q := by
  refine w_push i_126_0 rfl ?_
  refine w_store (l1 := [.ref 134, .int (nI x), .int 0, UU, UU, UU, UU, UU, UU]) i_126_1 rfl (Nat.le_of_ble_eq_true rfl) rfl ?_
  exact (k1)
theorem S126_2 {Q : Ou → Prop} {M : Mem} {κ : Kp} (hκ : Rd κ) {x n i j : Nat} {O : Op} {e : Int32} (hx : x < 6) (hn : n ≤ 10) (hi : i ≤ n) (hj : j ≤ n) (hc : M 151 x = nI n) (he : M 147 x = e) (hO : ∀ f, f < 6 → ∀ j, j < n → M (152 + f) (10 * x + j) = O f j) 
    (k1 : i < n → RT 126 (14, [.ref 134, .int (nI x), .int (nI i), .int (nI 0), UU, UU, UU, UU, UU], [], M, κ) Q)
    (k2 : ¬ (i < n) → Q (.inl none, M, κ))
    : RT 126 (2, [.ref 134, .int (nI x), .int (nI i), UU, UU, UU, UU, UU, UU], [], M, κ) Q := by
  refine w_load i_126_2 rfl rfl ?_
  refine w_load i_126_3 rfl rfl ?_
  refine w_getR 151 i_126_4 hκ (⟨rfl, by decide⟩ : isOb 134 7) rfl rfl ?_
  refine w_load i_126_7 rfl rfl ?_
  refine w_ialdN (e := x) (v := (nI n)) i_126_8 hκ (⟨rfl, rfl, by decide⟩ : isAr 151 6) (by omega) (by decide) (hc) ?_
  refine w_if2n (i < n) i_126_9 (cN_ge (a := i) (b := n) (by omega) (by omega)) ?_ ?_
  · intro h1
    refine w_push i_126_12 rfl ?_
    refine w_store (l1 := [.ref 134, .int (nI x), .int (nI i), .int 0, UU, UU, UU, UU, UU]) i_126_13 rfl (Nat.le_of_ble_eq_true rfl) rfl ?_
    exact (k1 h1)
  · intro h2
    exact w_vret i_126_231 rfl (k2 h2)
theorem i_126_14 : ins 126 14 = some (.iload_n 3, 15, 3, 0, 0, 0) := rfl
theorem i_126_15 : ins 126 15 = some (.aload_n 0, 16, 0, 0, 0, 0) := rfl
theorem i_126_16 : ins 126 16 = some (.getfield 78, 19, 7, 26, 0, 0) := rfl
theorem i_126_19 : ins 126 19 = some (.iload_n 1, 20, 1, 0, 0, 0) := rfl
theorem i_126_20 : ins 126 20 = some (.iaload, 21, 0, 0, 0, 0) := rfl
theorem i_126_21 : ins 126 21 = some (.if_icmp .ge 204, 24, 225, 0, 0, 0) := rfl
theorem i_126_24 : ins 126 24 = some (.bipush 10, 26, 0, 0, 0, 10) := rfl
theorem i_126_26 : ins 126 26 = some (.iload_n 1, 27, 1, 0, 0, 0) := rfl
theorem i_126_27 : ins 126 27 = some (.imul, 28, 0, 0, 0, 0) := rfl
theorem i_126_28 : ins 126 28 = some (.iload_n 2, 29, 2, 0, 0, 0) := rfl
theorem i_126_29 : ins 126 29 = some (.iadd, 30, 0, 0, 0, 0) := rfl
theorem i_126_30 : ins 126 30 = some (.istore 4, 32, 4, 0, 0, 0) := rfl
theorem i_126_32 : ins 126 32 = some (.bipush 10, 34, 0, 0, 0, 10) := rfl
theorem i_126_34 : ins 126 34 = some (.iload_n 1, 35, 1, 0, 0, 0) := rfl
theorem i_126_35 : ins 126 35 = some (.imul, 36, 0, 0, 0, 0) := rfl
theorem i_126_36 : ins 126 36 = some (.iload_n 3, 37, 3, 0, 0, 0) := rfl
theorem i_126_37 : ins 126 37 = some (.iadd, 38, 0, 0, 0, 0) := rfl
theorem i_126_38 : ins 126 38 = some (.istore 5, 40, 5, 0, 0, 0) := rfl
theorem i_126_40 : ins 126 40 = some (.iload_n 2, 41, 2, 0, 0, 0) := rfl
theorem i_126_41 : ins 126 41 = some (.iload_n 3, 42, 3, 0, 0, 0) := rfl
theorem i_126_42 : ins 126 42 = some (.if_icmp .lt 13, 45, 55, 0, 0, 0) := rfl
theorem i_126_45 : ins 126 45 = some (.aload_n 0, 46, 0, 0, 0, 0) := rfl
theorem i_126_46 : ins 126 46 = some (.getfield 66, 49, 7, 22, 0, 0) := rfl
theorem i_126_49 : ins 126 49 = some (.iload_n 1, 50, 1, 0, 0, 0) := rfl
theorem i_126_50 : ins 126 50 = some (.iaload, 51, 0, 0, 0, 0) := rfl
theorem i_126_51 : ins 126 51 = some (.iconst 3, 52, 0, 0, 0, 3) := rfl
theorem i_126_52 : ins 126 52 = some (.if_icmp .ne 7, 55, 59, 0, 0, 0) := rfl
theorem i_126_55 : ins 126 55 = some (.iconst 1, 56, 0, 0, 0, 1) := rfl
theorem i_126_56 : ins 126 56 = some (.goto 4, 59, 60, 0, 0, 0) := rfl
theorem i_126_59 : ins 126 59 = some (.iconst 0, 60, 0, 0, 0, 0) := rfl
theorem i_126_60 : ins 126 60 = some (.istore 6, 62, 6, 0, 0, 0) := rfl
theorem i_126_62 : ins 126 62 = some (.iload 6, 64, 6, 0, 0, 0) := rfl
theorem i_126_64 : ins 126 64 = some (.ifCond .eq 49, 67, 113, 0, 0, 0) := rfl
theorem i_126_67 : ins 126 67 = some (.aload_n 0, 68, 0, 0, 0, 0) := rfl
theorem i_126_68 : ins 126 68 = some (.iload 4, 70, 4, 0, 0, 0) := rfl
theorem i_126_70 : ins 126 70 = some (.invokevirtual 246, 73, 119, 0, 2, 0) := rfl
theorem i_126_73 : ins 126 73 = some (.ifCond .eq 40, 76, 113, 0, 0, 0) := rfl
theorem i_126_76 : ins 126 76 = some (.aload_n 0, 77, 0, 0, 0, 0) := rfl
theorem i_126_77 : ins 126 77 = some (.iload 5, 79, 5, 0, 0, 0) := rfl
theorem i_126_79 : ins 126 79 = some (.invokevirtual 246, 82, 119, 0, 2, 0) := rfl
theorem i_126_82 : ins 126 82 = some (.ifCond .eq 31, 85, 113, 0, 0, 0) := rfl
theorem i_126_85 : ins 126 85 = some (.aload_n 0, 86, 0, 0, 0, 0) := rfl
theorem i_126_86 : ins 126 86 = some (.getfield 81, 89, 7, 27, 0, 0) := rfl
theorem i_126_89 : ins 126 89 = some (.iload 4, 91, 4, 0, 0, 0) := rfl
theorem i_126_91 : ins 126 91 = some (.iaload, 92, 0, 0, 0, 0) := rfl
theorem i_126_92 : ins 126 92 = some (.bipush 8, 94, 0, 0, 0, 8) := rfl
theorem i_126_94 : ins 126 94 = some (.if_icmp .eq 15, 97, 109, 0, 0, 0) := rfl
theorem i_126_97 : ins 126 97 = some (.aload_n 0, 98, 0, 0, 0, 0) := rfl
theorem i_126_98 : ins 126 98 = some (.getfield 81, 101, 7, 27, 0, 0) := rfl
theorem i_126_101 : ins 126 101 = some (.iload 5, 103, 5, 0, 0, 0) := rfl
theorem i_126_103 : ins 126 103 = some (.iaload, 104, 0, 0, 0, 0) := rfl
theorem i_126_104 : ins 126 104 = some (.bipush 8, 106, 0, 0, 0, 8) := rfl
theorem i_126_106 : ins 126 106 = some (.if_icmp .ne 7, 109, 113, 0, 0, 0) := rfl
theorem i_126_109 : ins 126 109 = some (.iconst 1, 110, 0, 0, 0, 1) := rfl
theorem i_126_110 : ins 126 110 = some (.goto 4, 113, 114, 0, 0, 0) := rfl
theorem i_126_113 : ins 126 113 = some (.iconst 0, 114, 0, 0, 0, 0) := rfl
theorem i_126_114 : ins 126 114 = some (.istore 7, 116, 7, 0, 0, 0) := rfl
theorem i_126_116 : ins 126 116 = some (.iload 7, 118, 7, 0, 0, 0) := rfl
theorem i_126_118 : ins 126 118 = some (.ifCond .eq 15, 121, 133, 0, 0, 0) := rfl
theorem i_126_121 : ins 126 121 = some (.aload_n 0, 122, 0, 0, 0, 0) := rfl
theorem i_126_122 : ins 126 122 = some (.iload_n 1, 123, 1, 0, 0, 0) := rfl
theorem i_126_123 : ins 126 123 = some (.iload 4, 125, 4, 0, 0, 0) := rfl
theorem i_126_125 : ins 126 125 = some (.iload 5, 127, 5, 0, 0, 0) := rfl
theorem i_126_127 : ins 126 127 = some (.invokevirtual 249, 130, 125, 0, 4, 0) := rfl
theorem i_126_130 : ins 126 130 = some (.goto 5, 133, 135, 0, 0, 0) := rfl
theorem i_126_133 : ins 126 133 = some (.ldc 222, 135, 222, 0, 0, (-100000)) := rfl
theorem i_126_135 : ins 126 135 = some (.istore 8, 137, 8, 0, 0, 0) := rfl
theorem i_126_137 : ins 126 137 = some (.aload_n 0, 138, 0, 0, 0, 0) := rfl
theorem i_126_138 : ins 126 138 = some (.getfield 120, 141, 7, 40, 0, 0) := rfl
theorem i_126_141 : ins 126 141 = some (.bipush 10, 143, 0, 0, 0, 10) := rfl
theorem i_126_143 : ins 126 143 = some (.iload_n 2, 144, 2, 0, 0, 0) := rfl
theorem i_126_144 : ins 126 144 = some (.imul, 145, 0, 0, 0, 0) := rfl
theorem i_126_145 : ins 126 145 = some (.iload_n 3, 146, 3, 0, 0, 0) := rfl
theorem i_126_146 : ins 126 146 = some (.iadd, 147, 0, 0, 0, 0) := rfl
theorem i_126_147 : ins 126 147 = some (.iload 6, 149, 6, 0, 0, 0) := rfl
theorem i_126_149 : ins 126 149 = some (.ifCond .eq 14, 152, 163, 0, 0, 0) := rfl
theorem i_126_152 : ins 126 152 = some (.aload_n 0, 153, 0, 0, 0, 0) := rfl
theorem i_126_153 : ins 126 153 = some (.iload 4, 155, 4, 0, 0, 0) := rfl
theorem i_126_155 : ins 126 155 = some (.iload 5, 157, 5, 0, 0, 0) := rfl
theorem i_126_157 : ins 126 157 = some (.invokevirtual 253, 160, 122, 0, 3, 0) := rfl
theorem i_126_160 : ins 126 160 = some (.goto 5, 163, 165, 0, 0, 0) := rfl
theorem i_126_163 : ins 126 163 = some (.ldc 222, 165, 222, 0, 0, (-100000)) := rfl
theorem i_126_165 : ins 126 165 = some (.iastore, 166, 0, 0, 0, 0) := rfl
theorem i_126_166 : ins 126 166 = some (.aload_n 0, 167, 0, 0, 0, 0) := rfl
theorem i_126_167 : ins 126 167 = some (.getfield 123, 170, 7, 41, 0, 0) := rfl
theorem i_126_170 : ins 126 170 = some (.bipush 10, 172, 0, 0, 0, 10) := rfl
theorem i_126_172 : ins 126 172 = some (.iload_n 2, 173, 2, 0, 0, 0) := rfl
theorem i_126_173 : ins 126 173 = some (.imul, 174, 0, 0, 0, 0) := rfl
theorem i_126_174 : ins 126 174 = some (.iload_n 3, 175, 3, 0, 0, 0) := rfl
theorem i_126_175 : ins 126 175 = some (.iadd, 176, 0, 0, 0, 0) := rfl
theorem i_126_176 : ins 126 176 = some (.iload 8, 178, 8, 0, 0, 0) := rfl
theorem i_126_178 : ins 126 178 = some (.ldc 222, 180, 222, 0, 0, (-100000)) := rfl
theorem i_126_180 : ins 126 180 = some (.if_icmp .ne 8, 183, 188, 0, 0, 0) := rfl
theorem i_126_183 : ins 126 183 = some (.ldc 222, 185, 222, 0, 0, (-100000)) := rfl
theorem i_126_185 : ins 126 185 = some (.goto 20, 188, 205, 0, 0, 0) := rfl
theorem i_126_188 : ins 126 188 = some (.aload_n 0, 189, 0, 0, 0, 0) := rfl
theorem i_126_189 : ins 126 189 = some (.getfield 81, 192, 7, 27, 0, 0) := rfl
theorem i_126_192 : ins 126 192 = some (.iload 4, 194, 4, 0, 0, 0) := rfl
theorem i_126_194 : ins 126 194 = some (.iaload, 195, 0, 0, 0, 0) := rfl
theorem i_126_195 : ins 126 195 = some (.bipush 8, 197, 0, 0, 0, 8) := rfl
theorem i_126_197 : ins 126 197 = some (.if_icmp .ne 7, 200, 204, 0, 0, 0) := rfl
theorem i_126_200 : ins 126 200 = some (.iconst 1, 201, 0, 0, 0, 1) := rfl
theorem i_126_201 : ins 126 201 = some (.goto 4, 204, 205, 0, 0, 0) := rfl
theorem i_126_204 : ins 126 204 = some (.iconst 0, 205, 0, 0, 0, 0) := rfl
theorem i_126_205 : ins 126 205 = some (.iastore, 206, 0, 0, 0, 0) := rfl
theorem i_126_206 : ins 126 206 = some (.aload_n 0, 207, 0, 0, 0, 0) := rfl
theorem i_126_207 : ins 126 207 = some (.getfield 126, 210, 7, 42, 0, 0) := rfl
theorem i_126_210 : ins 126 210 = some (.bipush 10, 212, 0, 0, 0, 10) := rfl
theorem i_126_212 : ins 126 212 = some (.iload_n 2, 213, 2, 0, 0, 0) := rfl
theorem i_126_213 : ins 126 213 = some (.imul, 214, 0, 0, 0, 0) := rfl
theorem i_126_214 : ins 126 214 = some (.iload_n 3, 215, 3, 0, 0, 0) := rfl
theorem i_126_215 : ins 126 215 = some (.iadd, 216, 0, 0, 0, 0) := rfl
theorem i_126_216 : ins 126 216 = some (.iload 8, 218, 8, 0, 0, 0) := rfl
theorem i_126_218 : ins 126 218 = some (.iastore, 219, 0, 0, 0, 0) := rfl
theorem i_126_219 : ins 126 219 = some (.iinc 3 1, 222, 3, 0, 0, 1) := rfl
theorem i_126_222 : ins 126 222 = some (.goto (-208), 225, 14, 0, 0, 0) := rfl
theorem i_126_225 : ins 126 225 = some (.iinc 2 1, 228, 2, 0, 0, 1) := rfl
theorem i_126_228 : ins 126 228 = some (.goto (-226), 231, 2, 0, 0, 0) := rfl
theorem S126_14 {Q : Ou → Prop} {M : Mem} {κ : Kp} (hκ : Rd κ) {x n i j : Nat} {O : Op} {e : Int32} (hx : x < 6) (hn : n ≤ 10) (hi : i < n) (hj : j ≤ n) (hc : M 151 x = nI n) (he : M 147 x = e) (hO : ∀ f, f < 6 → ∀ j, j < n → M (152 + f) (10 * x + j) = O f j)  {r_157 : Int32} {r_127 : Int32}
    (o1 : j < n → (if i < j then true else (if e = 3 then true else false)) = true → Run 122 (0, entL 122 [.ref 134, .int (nI ((10 * x) + i)), .int (nI ((10 * x) + j))], [], M, κ) (.inl (some (.int r_157)), M, κ))
    (o2 : j < n → (if (if i < j then true else (if e = 3 then true else false)) = true then (if (memF (O 0 i)) = true then (if (memF (O 0 j)) = true then (if (O 0 i) = 8 then true else (if (O 0 j) = 8 then true else false)) else false) else false) else false) = true → Run 125 (0, entL 125 [.ref 134, .int (nI x), .int (nI ((10 * x) + i)), .int (nI ((10 * x) + j))], [], M, κ) (.inl (some (.int r_127)), M, κ))
    (k1 : j < n → RT 126 (14, [.ref 134, .int (nI x), .int (nI i), .int (nI (j + 1)), UU, UU, UU, UU, UU], [], (stM (stM (stM M 165 ((10 * i) + j) (if (if i < j then true else (if e = 3 then true else false)) = true then r_157 else (-100000))) 166 ((10 * i) + j) ((if (if (if (if i < j then true else (if e = 3 then true else false)) = true then (if (memF (O 0 i)) = true then (if (memF (O 0 j)) = true then (if (O 0 i) = 8 then true else (if (O 0 j) = 8 then true else false)) else false) else false) else false) = true then r_127 else (-100000)) = (-100000) then (-100000) else (if (O 0 i) = 8 then 1 else 0)) : Int32)) 167 ((10 * i) + j) (if (if (if i < j then true else (if e = 3 then true else false)) = true then (if (memF (O 0 i)) = true then (if (memF (O 0 j)) = true then (if (O 0 i) = 8 then true else (if (O 0 j) = 8 then true else false)) else false) else false) else false) = true then r_127 else (-100000))), κ) Q)
    (k2 : ¬ (j < n) → RT 126 (2, [.ref 134, .int (nI x), .int (nI (i + 1)), UU, UU, UU, UU, UU, UU], [], M, κ) Q)
    : RT 126 (14, [.ref 134, .int (nI x), .int (nI i), .int (nI j), UU, UU, UU, UU, UU], [], M, κ) Q := by
  refine w_load i_126_14 rfl rfl ?_
  refine w_load i_126_15 rfl rfl ?_
  refine w_getR 151 i_126_16 hκ (⟨rfl, by decide⟩ : isOb 134 7) rfl rfl ?_
  refine w_load i_126_19 rfl rfl ?_
  refine w_ialdN (e := x) (v := (nI n)) i_126_20 hκ (⟨rfl, rfl, by decide⟩ : isAr 151 6) (by omega) (by decide) (hc) ?_
  refine w_if2n (j < n) i_126_21 (cN_ge (a := j) (b := n) (by omega) (by omega)) ?_ ?_
  · intro h1
    refine w_push i_126_24 rfl ?_
    refine w_load i_126_26 rfl rfl ?_
    refine w_bin (w := (nI (10 * x))) i_126_27 rfl (nI_mul 10 x) ?_
    refine w_load i_126_28 rfl rfl ?_
    refine w_bin (w := (nI ((10 * x) + i))) i_126_29 rfl (nI_add (10 * x) i) ?_
    refine w_store (l1 := [.ref 134, .int (nI x), .int (nI i), .int (nI j), .int (nI ((10 * x) + i)), UU, UU, UU, UU]) i_126_30 rfl (Nat.le_of_ble_eq_true rfl) rfl ?_
    refine w_push i_126_32 rfl ?_
    refine w_load i_126_34 rfl rfl ?_
    refine w_bin (w := (nI (10 * x))) i_126_35 rfl (nI_mul 10 x) ?_
    refine w_load i_126_36 rfl rfl ?_
    refine w_bin (w := (nI ((10 * x) + j))) i_126_37 rfl (nI_add (10 * x) j) ?_
    refine w_store (l1 := [.ref 134, .int (nI x), .int (nI i), .int (nI j), .int (nI ((10 * x) + i)), .int (nI ((10 * x) + j)), UU, UU, UU]) i_126_38 rfl (Nat.le_of_ble_eq_true rfl) rfl ?_
    refine w_load i_126_40 rfl rfl ?_
    refine w_load i_126_41 rfl rfl ?_
    have K2 : RT 126 (60, [.ref 134, .int (nI x), .int (nI i), .int (nI j), .int (nI ((10 * x) + i)), .int (nI ((10 * x) + j)), UU, UU, UU], [.int (bI (if i < j then true else (if e = 3 then true else false)))], M, κ) Q := by
      refine w_store (l1 := [.ref 134, .int (nI x), .int (nI i), .int (nI j), .int (nI ((10 * x) + i)), .int (nI ((10 * x) + j)), .int (bI (if i < j then true else (if e = 3 then true else false))), UU, UU]) i_126_60 rfl (Nat.le_of_ble_eq_true rfl) rfl ?_
      refine w_load i_126_62 rfl rfl ?_
      have K3 : RT 126 (114, [.ref 134, .int (nI x), .int (nI i), .int (nI j), .int (nI ((10 * x) + i)), .int (nI ((10 * x) + j)), .int (bI (if i < j then true else (if e = 3 then true else false))), UU, UU], [.int (bI (if (if i < j then true else (if e = 3 then true else false)) = true then (if (memF (O 0 i)) = true then (if (memF (O 0 j)) = true then (if (O 0 i) = 8 then true else (if (O 0 j) = 8 then true else false)) else false) else false) else false))], M, κ) Q := by
        refine w_store (l1 := [.ref 134, .int (nI x), .int (nI i), .int (nI j), .int (nI ((10 * x) + i)), .int (nI ((10 * x) + j)), .int (bI (if i < j then true else (if e = 3 then true else false))), .int (bI (if (if i < j then true else (if e = 3 then true else false)) = true then (if (memF (O 0 i)) = true then (if (memF (O 0 j)) = true then (if (O 0 i) = 8 then true else (if (O 0 j) = 8 then true else false)) else false) else false) else false)), UU]) i_126_114 rfl (Nat.le_of_ble_eq_true rfl) rfl ?_
        refine w_load i_126_116 rfl rfl ?_
        have K4 : RT 126 (135, [.ref 134, .int (nI x), .int (nI i), .int (nI j), .int (nI ((10 * x) + i)), .int (nI ((10 * x) + j)), .int (bI (if i < j then true else (if e = 3 then true else false))), .int (bI (if (if i < j then true else (if e = 3 then true else false)) = true then (if (memF (O 0 i)) = true then (if (memF (O 0 j)) = true then (if (O 0 i) = 8 then true else (if (O 0 j) = 8 then true else false)) else false) else false) else false)), UU], [.int (if (if (if i < j then true else (if e = 3 then true else false)) = true then (if (memF (O 0 i)) = true then (if (memF (O 0 j)) = true then (if (O 0 i) = 8 then true else (if (O 0 j) = 8 then true else false)) else false) else false) else false) = true then r_127 else (-100000))], M, κ) Q := by
          refine w_store (l1 := [.ref 134, .int (nI x), .int (nI i), .int (nI j), .int (nI ((10 * x) + i)), .int (nI ((10 * x) + j)), .int (bI (if i < j then true else (if e = 3 then true else false))), .int (bI (if (if i < j then true else (if e = 3 then true else false)) = true then (if (memF (O 0 i)) = true then (if (memF (O 0 j)) = true then (if (O 0 i) = 8 then true else (if (O 0 j) = 8 then true else false)) else false) else false) else false)), .int (if (if (if i < j then true else (if e = 3 then true else false)) = true then (if (memF (O 0 i)) = true then (if (memF (O 0 j)) = true then (if (O 0 i) = 8 then true else (if (O 0 j) = 8 then true else false)) else false) else false) else false) = true then r_127 else (-100000))]) i_126_135 rfl (Nat.le_of_ble_eq_true rfl) rfl ?_
          refine w_load i_126_137 rfl rfl ?_
          refine w_getR 165 i_126_138 hκ (⟨rfl, by decide⟩ : isOb 134 7) rfl rfl ?_
          refine w_push i_126_141 rfl ?_
          refine w_load i_126_143 rfl rfl ?_
          refine w_bin (w := (nI (10 * i))) i_126_144 rfl (nI_mul 10 i) ?_
          refine w_load i_126_145 rfl rfl ?_
          refine w_bin (w := (nI ((10 * i) + j))) i_126_146 rfl (nI_add (10 * i) j) ?_
          refine w_load i_126_147 rfl rfl ?_
          have K5 : RT 126 (165, [.ref 134, .int (nI x), .int (nI i), .int (nI j), .int (nI ((10 * x) + i)), .int (nI ((10 * x) + j)), .int (bI (if i < j then true else (if e = 3 then true else false))), .int (bI (if (if i < j then true else (if e = 3 then true else false)) = true then (if (memF (O 0 i)) = true then (if (memF (O 0 j)) = true then (if (O 0 i) = 8 then true else (if (O 0 j) = 8 then true else false)) else false) else false) else false)), .int (if (if (if i < j then true else (if e = 3 then true else false)) = true then (if (memF (O 0 i)) = true then (if (memF (O 0 j)) = true then (if (O 0 i) = 8 then true else (if (O 0 j) = 8 then true else false)) else false) else false) else false) = true then r_127 else (-100000))], [.int (if (if i < j then true else (if e = 3 then true else false)) = true then r_157 else (-100000)), .int (nI ((10 * i) + j)), .ref 165], M, κ) Q := by
            refine w_iastN (e := ((10 * i) + j)) i_126_165 hκ (⟨rfl, rfl, by decide⟩ : isAr 165 100) (by omega) (by decide) ?_
            refine w_load i_126_166 rfl rfl ?_
            refine w_getR 166 i_126_167 hκ (⟨rfl, by decide⟩ : isOb 134 7) rfl rfl ?_
            refine w_push i_126_170 rfl ?_
            refine w_load i_126_172 rfl rfl ?_
            refine w_bin (w := (nI (10 * i))) i_126_173 rfl (nI_mul 10 i) ?_
            refine w_load i_126_174 rfl rfl ?_
            refine w_bin (w := (nI ((10 * i) + j))) i_126_175 rfl (nI_add (10 * i) j) ?_
            refine w_load i_126_176 rfl rfl ?_
            refine w_push i_126_178 rfl ?_
            have K6 : RT 126 (205, [.ref 134, .int (nI x), .int (nI i), .int (nI j), .int (nI ((10 * x) + i)), .int (nI ((10 * x) + j)), .int (bI (if i < j then true else (if e = 3 then true else false))), .int (bI (if (if i < j then true else (if e = 3 then true else false)) = true then (if (memF (O 0 i)) = true then (if (memF (O 0 j)) = true then (if (O 0 i) = 8 then true else (if (O 0 j) = 8 then true else false)) else false) else false) else false)), .int (if (if (if i < j then true else (if e = 3 then true else false)) = true then (if (memF (O 0 i)) = true then (if (memF (O 0 j)) = true then (if (O 0 i) = 8 then true else (if (O 0 j) = 8 then true else false)) else false) else false) else false) = true then r_127 else (-100000))], [.int ((if (if (if (if i < j then true else (if e = 3 then true else false)) = true then (if (memF (O 0 i)) = true then (if (memF (O 0 j)) = true then (if (O 0 i) = 8 then true else (if (O 0 j) = 8 then true else false)) else false) else false) else false) = true then r_127 else (-100000)) = (-100000) then (-100000) else (if (O 0 i) = 8 then 1 else 0)) : Int32), .int (nI ((10 * i) + j)), .ref 166], (stM M 165 ((10 * i) + j) (if (if i < j then true else (if e = 3 then true else false)) = true then r_157 else (-100000))), κ) Q := by
              refine w_iastN (e := ((10 * i) + j)) i_126_205 hκ (⟨rfl, rfl, by decide⟩ : isAr 166 100) (by omega) (by decide) ?_
              refine w_load i_126_206 rfl rfl ?_
              refine w_getR 167 i_126_207 hκ (⟨rfl, by decide⟩ : isOb 134 7) rfl rfl ?_
              refine w_push i_126_210 rfl ?_
              refine w_load i_126_212 rfl rfl ?_
              refine w_bin (w := (nI (10 * i))) i_126_213 rfl (nI_mul 10 i) ?_
              refine w_load i_126_214 rfl rfl ?_
              refine w_bin (w := (nI ((10 * i) + j))) i_126_215 rfl (nI_add (10 * i) j) ?_
              refine w_load i_126_216 rfl rfl ?_
              refine w_iastN (e := ((10 * i) + j)) i_126_218 hκ (⟨rfl, rfl, by decide⟩ : isAr 167 100) (by omega) (by decide) ?_
              refine w_iincN (n := j) (l1 := [.ref 134, .int (nI x), .int (nI i), .int (nI (j + 1)), .int (nI ((10 * x) + i)), .int (nI ((10 * x) + j)), .int (bI (if i < j then true else (if e = 3 then true else false))), .int (bI (if (if i < j then true else (if e = 3 then true else false)) = true then (if (memF (O 0 i)) = true then (if (memF (O 0 j)) = true then (if (O 0 i) = 8 then true else (if (O 0 j) = 8 then true else false)) else false) else false) else false)), .int (if (if (if i < j then true else (if e = 3 then true else false)) = true then (if (memF (O 0 i)) = true then (if (memF (O 0 j)) = true then (if (O 0 i) = 8 then true else (if (O 0 j) = 8 then true else false)) else false) else false) else false) = true then r_127 else (-100000))]) 1 i_126_219 rfl rfl ?_
              refine w_goto i_126_222 ?_
              exact w_weak (lle_s (lle_s (lle_s (lle_s (lle_u (lle_u (lle_u (lle_u (lle_u lle_n))))))))) (k1 h1)
            refine w_if2n ((if (if (if i < j then true else (if e = 3 then true else false)) = true then (if (memF (O 0 i)) = true then (if (memF (O 0 j)) = true then (if (O 0 i) = 8 then true else (if (O 0 j) = 8 then true else false)) else false) else false) else false) = true then r_127 else (-100000)) = (-100000)) i_126_180 cI_ne ?_ ?_
            · intro h7
              refine w_push i_126_183 rfl ?_
              refine w_goto i_126_185 ?_
              exact (by first | exact (K6) | (have K9 := K6; simp only [↓if_pos h7] at K9 ⊢; exact (K9)))
            · intro h8
              refine w_load i_126_188 rfl rfl ?_
              refine w_getR 152 i_126_189 hκ (⟨rfl, by decide⟩ : isOb 134 7) rfl rfl ?_
              refine w_load i_126_192 rfl rfl ?_
              refine w_ialdN (e := ((10 * x) + i)) (v := (O 0 i)) i_126_194 hκ (⟨rfl, rfl, by decide⟩ : isAr 152 60) (by omega) (by decide) ((stM_o (by decide)).trans (hO 0 (by decide) i (by omega))) ?_
              refine w_push i_126_195 rfl ?_
              refine w_if2n ((O 0 i) = 8) i_126_197 cI_ne ?_ ?_
              · intro h9
                refine w_push i_126_200 rfl ?_
                refine w_goto i_126_201 ?_
                exact (by first | exact (K6) | (have K9 := K6; simp only [↓if_neg h8, ↓if_pos h9] at K9 ⊢; exact (K9)))
              · intro h10
                refine w_push i_126_204 rfl ?_
                exact (by first | exact (K6) | (have K9 := K6; simp only [↓if_neg h8, ↓if_neg h10] at K9 ⊢; exact (K9)))
          refine w_if0n ((if i < j then true else (if e = 3 then true else false)) = true) i_126_149 cB_eq ?_ ?_
          · intro h11
            refine w_load i_126_152 rfl rfl ?_
            refine w_load i_126_153 rfl rfl ?_
            refine w_load i_126_155 rfl rfl ?_
            refine w_callV (i := _) i_126_157 ⟨by decide, by decide, by decide, rfl⟩ hκ (⟨rfl, by decide⟩ : isOb 134 7) (av := [.int (nI ((10 * x) + i)), .int (nI ((10 * x) + j))]) (rest := [.int (nI ((10 * i) + j)), .ref 165]) rfl rfl (Nat.le_of_ble_eq_true rfl) (v := some (.int r_157)) (o1 h1 h11) ?_
            refine w_goto i_126_160 ?_
            exact (by first | exact (K5) | (have K9 := K5; simp only [↓if_pos h11] at K9 ⊢; exact (K9)))
          · intro h12
            refine w_push i_126_163 rfl ?_
            exact (by first | exact (K5) | (have K9 := K5; simp only [↓if_neg h12] at K9 ⊢; exact (K9)))
        refine w_if0n ((if (if i < j then true else (if e = 3 then true else false)) = true then (if (memF (O 0 i)) = true then (if (memF (O 0 j)) = true then (if (O 0 i) = 8 then true else (if (O 0 j) = 8 then true else false)) else false) else false) else false) = true) i_126_118 cB_eq ?_ ?_
        · intro h13
          refine w_load i_126_121 rfl rfl ?_
          refine w_load i_126_122 rfl rfl ?_
          refine w_load i_126_123 rfl rfl ?_
          refine w_load i_126_125 rfl rfl ?_
          refine w_callV (i := _) i_126_127 ⟨by decide, by decide, by decide, rfl⟩ hκ (⟨rfl, by decide⟩ : isOb 134 7) (av := [.int (nI x), .int (nI ((10 * x) + i)), .int (nI ((10 * x) + j))]) (rest := []) rfl rfl (Nat.le_of_ble_eq_true rfl) (v := some (.int r_127)) (o2 h1 h13) ?_
          refine w_goto i_126_130 ?_
          exact (by first | exact (K4) | (have K9 := K4; simp only [↓if_pos h13] at K9 ⊢; exact (K9)))
        · intro h14
          refine w_push i_126_133 rfl ?_
          exact (by first | exact (K4) | (have K9 := K4; simp only [↓if_neg h14] at K9 ⊢; exact (K9)))
      refine w_if0n ((if i < j then true else (if e = 3 then true else false)) = true) i_126_64 cB_eq ?_ ?_
      · intro h15
        refine w_load i_126_67 rfl rfl ?_
        refine w_load i_126_68 rfl rfl ?_
        refine w_callV (i := _) i_126_70 ⟨by decide, by decide, by decide, rfl⟩ hκ (⟨rfl, by decide⟩ : isOb 134 7) (av := [.int (nI ((10 * x) + i))]) (rest := []) rfl rfl (Nat.le_of_ble_eq_true rfl) (v := some (.int (bI (memF (O 0 i))))) (c119 hκ (by omega) (hO 0 (by decide) i (by omega))) ?_
        refine w_if0n ((memF (O 0 i)) = true) i_126_73 cB_eq ?_ ?_
        · intro h16
          refine w_load i_126_76 rfl rfl ?_
          refine w_load i_126_77 rfl rfl ?_
          refine w_callV (i := _) i_126_79 ⟨by decide, by decide, by decide, rfl⟩ hκ (⟨rfl, by decide⟩ : isOb 134 7) (av := [.int (nI ((10 * x) + j))]) (rest := []) rfl rfl (Nat.le_of_ble_eq_true rfl) (v := some (.int (bI (memF (O 0 j))))) (c119 hκ (by omega) (hO 0 (by decide) j (by omega))) ?_
          refine w_if0n ((memF (O 0 j)) = true) i_126_82 cB_eq ?_ ?_
          · intro h17
            refine w_load i_126_85 rfl rfl ?_
            refine w_getR 152 i_126_86 hκ (⟨rfl, by decide⟩ : isOb 134 7) rfl rfl ?_
            refine w_load i_126_89 rfl rfl ?_
            refine w_ialdN (e := ((10 * x) + i)) (v := (O 0 i)) i_126_91 hκ (⟨rfl, rfl, by decide⟩ : isAr 152 60) (by omega) (by decide) (hO 0 (by decide) i (by omega)) ?_
            refine w_push i_126_92 rfl ?_
            refine w_if2 ((O 0 i) = 8) i_126_94 cI_eq ?_ ?_
            · intro h18
              refine w_push i_126_109 rfl ?_
              refine w_goto i_126_110 ?_
              exact (by first | exact (K3) | (have K9 := K3; simp only [↓if_pos h15, ↓if_pos h16, ↓if_pos h17, ↓if_pos h18] at K9 ⊢; exact (K9)))
            · intro h19
              refine w_load i_126_97 rfl rfl ?_
              refine w_getR 152 i_126_98 hκ (⟨rfl, by decide⟩ : isOb 134 7) rfl rfl ?_
              refine w_load i_126_101 rfl rfl ?_
              refine w_ialdN (e := ((10 * x) + j)) (v := (O 0 j)) i_126_103 hκ (⟨rfl, rfl, by decide⟩ : isAr 152 60) (by omega) (by decide) (hO 0 (by decide) j (by omega)) ?_
              refine w_push i_126_104 rfl ?_
              refine w_if2n ((O 0 j) = 8) i_126_106 cI_ne ?_ ?_
              · intro h20
                refine w_push i_126_109 rfl ?_
                refine w_goto i_126_110 ?_
                exact (by first | exact (K3) | (have K9 := K3; simp only [↓if_pos h15, ↓if_pos h16, ↓if_pos h17, ↓if_neg h19, ↓if_pos h20] at K9 ⊢; exact (K9)))
              · intro h21
                refine w_push i_126_113 rfl ?_
                exact (by first | exact (K3) | (have K9 := K3; simp only [↓if_pos h15, ↓if_pos h16, ↓if_pos h17, ↓if_neg h19, ↓if_neg h21] at K9 ⊢; exact (K9)))
          · intro h22
            refine w_push i_126_113 rfl ?_
            exact (by first | exact (K3) | (have K9 := K3; simp only [↓if_pos h15, ↓if_pos h16, ↓if_neg h22] at K9 ⊢; exact (K9)))
        · intro h23
          refine w_push i_126_113 rfl ?_
          exact (by first | exact (K3) | (have K9 := K3; simp only [↓if_pos h15, ↓if_neg h23] at K9 ⊢; exact (K9)))
      · intro h24
        refine w_push i_126_113 rfl ?_
        exact (by first | exact (K3) | (have K9 := K3; simp only [↓if_neg h24] at K9 ⊢; exact (K9)))
    refine w_if2 (i < j) i_126_42 (cN_lt (a := i) (b := j) (by omega) (by omega)) ?_ ?_
    · intro h25
      refine w_push i_126_55 rfl ?_
      refine w_goto i_126_56 ?_
      exact (by first | exact (K2) | (have K9 := K2; simp only [↓if_pos h25] at K9 ⊢; exact (K9)))
    · intro h26
      refine w_load i_126_45 rfl rfl ?_
      refine w_getR 147 i_126_46 hκ (⟨rfl, by decide⟩ : isOb 134 7) rfl rfl ?_
      refine w_load i_126_49 rfl rfl ?_
      refine w_ialdN (e := x) (v := e) i_126_50 hκ (⟨rfl, rfl, by decide⟩ : isAr 147 6) (by omega) (by decide) (he) ?_
      refine w_push i_126_51 rfl ?_
      refine w_if2n (e = 3) i_126_52 cI_ne ?_ ?_
      · intro h27
        refine w_push i_126_55 rfl ?_
        refine w_goto i_126_56 ?_
        exact (by first | exact (K2) | (have K9 := K2; simp only [↓if_neg h26, ↓if_pos h27] at K9 ⊢; exact (K9)))
      · intro h28
        refine w_push i_126_59 rfl ?_
        exact (by first | exact (K2) | (have K9 := K2; simp only [↓if_neg h26, ↓if_neg h28] at K9 ⊢; exact (K9)))
  · intro h29
    refine w_iincN (n := i) (l1 := [.ref 134, .int (nI x), .int (nI (i + 1)), .int (nI j), UU, UU, UU, UU, UU]) 1 i_126_225 rfl rfl ?_
    refine w_goto i_126_228 ?_
    exact w_weak (lle_s (lle_s (lle_s (lle_u (lle_s (lle_s (lle_s (lle_s (lle_s lle_n))))))))) (k2 h29)
/-- what edges leaves alone -/
def fr126 (M0 M : Mem) : Prop := ∀ o x, (o < 165 ∨ 167 < o) → M o x = M0 o x
theorem f126 (hκ : Rd κ) {x n : Nat} {O : Op} {L : Nat → Int32} {pl mu di lo e : Int32} (hx : x < 6) (hn : n ≤ 10) (hc : M0 151 x = nI n) (he : M0 147 x = e) (hpl : M0 134 3 = pl) (hmu : M0 134 4 = mu) (hdi : M0 134 5 = di) (hlo : M0 134 6 = lo) (hO : ∀ f, f < 6 → ∀ j, j < n → M0 (152 + f) (10 * x + j) = O f j) (hk : Ook O n) (hL : Lok L n) (hl : ∀ k, k < n → latF pl mu di lo (O 0 k) = L k)
    (K : ∀ M, fr126 M0 M → GM M n (decide (e = 3)) O L n 0 → Q (.inl none, M, κ)) : RT 126 (0, entL 126 [.ref 134, .int (nI x)], [], M0, κ) Q := by
  have hO' : ∀ M, fr126 M0 M → ∀ f, f < 6 → ∀ j, j < n → M (152 + f) (10 * x + j) = O f j := fun M hf f h j hj => (hf _ _ (by omega)).trans (hO f h j hj)
  have inner : ∀ i, i < n → (∀ M, fr126 M0 M ∧ GM M n (decide (e = 3)) O L (i + 1) 0 → RT 126 (2, [.ref 134, .int (nI x), .int (nI (i + 1)), UU, UU, UU, UU, UU, UU], [], M, κ) Q) → ∀ M, fr126 M0 M ∧ GM M n (decide (e = 3)) O L i 0 → RT 126 (14, [.ref 134, .int (nI x), .int (nI i), .int (nI 0), UU, UU, UU, UU, UU], [], M, κ) Q := by
    intro i hi K2 M hM
    refine loopI (n := n) (fun j M => RT 126 (14, [.ref 134, .int (nI x), .int (nI i), .int (nI j), UU, UU, UU, UU, UU], [], M, κ) Q) (fun j M => fr126 M0 M ∧ GM M n (decide (e = 3)) O L i j) ?_ ?_ 0 M (Nat.zero_le n) hM
    · intro j M hj hI ih
      obtain ⟨hf, hg⟩ := hI
      have hv : ¬ O 2 i = -1 := fun z => by
        have := (hk i hi).2.2.1
        rw [z, cm1] at this
        omega
      refine S126_14 (r_157 := enc (-100000) (usO L O i j)) (r_127 := rsM (mtF O n (decide (e = 3)) i j)) hκ hx hn hi (by omega) ((hf _ _ (by omega)).trans hc) ((hf _ _ (by omega)).trans he) (hO' M hf) (fun _ h => ?_) (fun _ h => ?_) (fun _ => ?_) (fun z => absurd hj z)
      · refine c122 hκ hx hn hi hj ?_ ?_ ?_ ?_ (fun f h j hj => ?_) hk hL hl
        · exact (hf _ _ (by omega)).trans hpl
        · exact (hf _ _ (by omega)).trans hmu
        · exact (hf _ _ (by omega)).trans hdi
        · exact (hf _ _ (by omega)).trans hlo
        · exact hO' M hf f h j hj
      · exact c125 hκ hx hn hi hj ((l_acc.mp h).1.imp id of_decide_eq_true) ((hf _ _ (by omega)).trans hc) ((hf _ _ (by omega)).trans he) (hO' M hf) hv
      · have eu : (if (if i < j then true else (if e = 3 then true else false)) = true then enc (-100000) (usO L O i j) else (-100000)) = gu L O (decide (e = 3)) i j := by
          by_cases q : (i < j ∨ decide (e = 3) = true)
          · rw [if_pos (l_is.mpr q), uE_map q]
          · rw [if_neg (fun z => q (l_is.mp z))]
            unfold gu
            rw [uE_no q]
            rfl
        have em : (if (if (if i < j then true else (if e = 3 then true else false)) = true then (if (memF (O 0 i)) = true then (if (memF (O 0 j)) = true then (if (O 0 i) = 8 then true else (if (O 0 j) = 8 then true else false)) else false) else false) else false) = true then rsM (mtF O n (decide (e = 3)) i j) else (-100000)) = gm2 O n (decide (e = 3)) i j := by
          by_cases q : ((i < j ∨ decide (e = 3) = true) ∧ acc O i j = true)
          · rw [if_pos (l_acc.mpr q), (mE_map q).1]
          · rw [if_neg (fun z => q (l_acc.mp z)), (mE_map0 q).1]
        have em1 : (if gm2 O n (decide (e = 3)) i j = -100000 then (-100000) else (if O 0 i = 8 then 1 else 0) : Int32) = gm1 O n (decide (e = 3)) i j := by
          by_cases q : ((i < j ∨ decide (e = 3) = true) ∧ acc O i j = true)
          · rw [(mE_map q).1, (mE_map q).2]
            rfl
          · rw [(mE_map0 q).1, (mE_map0 q).2, if_pos rfl]
        rw [eu, em, em1]
        refine ih _ ⟨fun o y h => ?_, fun a c ha hc' h => ?_⟩
        · rw [stM_n (by omega), stM_n (by omega), stM_n (by omega)]
          exact hf o y h
        · by_cases q : a = i ∧ c = j
          · obtain ⟨rfl, rfl⟩ := q
            refine ⟨?_, ?_, ?_⟩
            · rw [stM_o (by decide), stM_o (by decide), stM_s]
              rfl
            · rw [stM_o (by decide), stM_s]
              rfl
            · rw [stM_s]
              rfl
          · have hh := hg a c ha hc' (by omega)
            refine ⟨?_, ?_, ?_⟩
            · rw [stM_o (by decide), stM_o (by decide), stM_j (by omega)]
              exact hh.1
            · rw [stM_o (by decide), stM_j (by omega), stM_o (by decide)]
              exact hh.2.1
            · rw [stM_j (by omega), stM_o (by decide), stM_o (by decide)]
              exact hh.2.2
    · intro M hI
      obtain ⟨hf, hg⟩ := hI
      exact S126_14 (r_157 := 0) (r_127 := 0) hκ hx hn hi (Nat.le_refl n) ((hf _ _ (by omega)).trans hc) ((hf _ _ (by omega)).trans he) (hO' M hf) (fun z => absurd z (Nat.lt_irrefl n)) (fun z => absurd z (Nat.lt_irrefl n)) (fun z => absurd z (Nat.lt_irrefl n)) (fun _ => K2 M ⟨hf, fun a c ha hc h => hg a c ha hc (by omega)⟩)
  refine S126_0 (i := 0) (j := 0) hκ hx hn (by omega) (by omega) hc he hO ?_
  refine loopI (n := n) (fun i M => RT 126 (2, [.ref 134, .int (nI x), .int (nI i), UU, UU, UU, UU, UU, UU], [], M, κ) Q) (fun i M => fr126 M0 M ∧ GM M n (decide (e = 3)) O L i 0) ?_ ?_ 0 M0 (Nat.zero_le n) ⟨fun o x h => rfl, fun a c ha hc h => by omega⟩
  · intro i M hi hI ih
    exact S126_2 (j := 0) hκ hx hn (by omega) (by omega) ((hI.1 _ _ (by omega)).trans hc) ((hI.1 _ _ (by omega)).trans he) (hO' M hI.1) (fun _ => inner i hi ih M hI) (fun z => absurd hi z)
  · intro M hI
    exact S126_2 (j := 0) hκ hx hn (by omega) (by omega) ((hI.1 _ _ (by omega)).trans hc) ((hI.1 _ _ (by omega)).trans he) (hO' M hI.1) (fun z => absurd z (Nat.lt_irrefl n)) (fun _ => K M hI.1 hI.2)
theorem i_127_0 : ins 127 0 = some (.bipush 10, 2, 0, 0, 0, 10) := rfl
theorem i_127_2 : ins 127 2 = some (.iload_n 1, 3, 1, 0, 0, 0) := rfl
theorem i_127_3 : ins 127 3 = some (.imul, 4, 0, 0, 0, 0) := rfl
theorem i_127_4 : ins 127 4 = some (.iload_n 2, 5, 2, 0, 0, 0) := rfl
theorem i_127_5 : ins 127 5 = some (.iadd, 6, 0, 0, 0, 0) := rfl
theorem i_127_6 : ins 127 6 = some (.istore 4, 8, 4, 0, 0, 0) := rfl
theorem i_127_8 : ins 127 8 = some (.aload_n 0, 9, 0, 0, 0, 0) := rfl
theorem i_127_9 : ins 127 9 = some (.getfield 120, 12, 7, 40, 0, 0) := rfl
theorem i_127_12 : ins 127 12 = some (.iload 4, 14, 4, 0, 0, 0) := rfl
theorem i_127_14 : ins 127 14 = some (.iaload, 15, 0, 0, 0, 0) := rfl
theorem i_127_15 : ins 127 15 = some (.ldc 222, 17, 222, 0, 0, (-100000)) := rfl
theorem i_127_17 : ins 127 17 = some (.if_icmp .ne 8, 20, 25, 0, 0, 0) := rfl
theorem i_127_20 : ins 127 20 = some (.ldc 222, 22, 222, 0, 0, (-100000)) := rfl
theorem i_127_22 : ins 127 22 = some (.goto 21, 25, 43, 0, 0, 0) := rfl
theorem i_127_25 : ins 127 25 = some (.aload_n 0, 26, 0, 0, 0, 0) := rfl
theorem i_127_26 : ins 127 26 = some (.getfield 120, 29, 7, 40, 0, 0) := rfl
theorem i_127_29 : ins 127 29 = some (.iload 4, 31, 4, 0, 0, 0) := rfl
theorem i_127_31 : ins 127 31 = some (.iaload, 32, 0, 0, 0, 0) := rfl
theorem i_127_32 : ins 127 32 = some (.iload_n 1, 33, 1, 0, 0, 0) := rfl
theorem i_127_33 : ins 127 33 = some (.iload_n 2, 34, 2, 0, 0, 0) := rfl
theorem i_127_34 : ins 127 34 = some (.if_icmp .ge 7, 37, 41, 0, 0, 0) := rfl
theorem i_127_37 : ins 127 37 = some (.iconst 0, 38, 0, 0, 0, 0) := rfl
theorem i_127_38 : ins 127 38 = some (.goto 4, 41, 42, 0, 0, 0) := rfl
theorem i_127_41 : ins 127 41 = some (.iload_n 3, 42, 3, 0, 0, 0) := rfl
theorem i_127_42 : ins 127 42 = some (.isub, 43, 0, 0, 0, 0) := rfl
theorem i_127_43 : ins 127 43 = some (.istore 5, 45, 5, 0, 0, 0) := rfl
theorem i_127_45 : ins 127 45 = some (.aload_n 0, 46, 0, 0, 0, 0) := rfl
theorem i_127_46 : ins 127 46 = some (.getfield 123, 49, 7, 41, 0, 0) := rfl
theorem i_127_49 : ins 127 49 = some (.iload 4, 51, 4, 0, 0, 0) := rfl
theorem i_127_51 : ins 127 51 = some (.iaload, 52, 0, 0, 0, 0) := rfl
theorem i_127_52 : ins 127 52 = some (.ldc 222, 54, 222, 0, 0, (-100000)) := rfl
theorem i_127_54 : ins 127 54 = some (.if_icmp .ne 8, 57, 62, 0, 0, 0) := rfl
theorem i_127_57 : ins 127 57 = some (.ldc 222, 59, 222, 0, 0, (-100000)) := rfl
theorem i_127_59 : ins 127 59 = some (.goto 20, 62, 79, 0, 0, 0) := rfl
theorem i_127_62 : ins 127 62 = some (.aload_n 0, 63, 0, 0, 0, 0) := rfl
theorem i_127_63 : ins 127 63 = some (.getfield 123, 66, 7, 41, 0, 0) := rfl
theorem i_127_66 : ins 127 66 = some (.iload 4, 68, 4, 0, 0, 0) := rfl
theorem i_127_68 : ins 127 68 = some (.iaload, 69, 0, 0, 0, 0) := rfl
theorem i_127_69 : ins 127 69 = some (.iload_n 3, 70, 3, 0, 0, 0) := rfl
theorem i_127_70 : ins 127 70 = some (.aload_n 0, 71, 0, 0, 0, 0) := rfl
theorem i_127_71 : ins 127 71 = some (.getfield 126, 74, 7, 42, 0, 0) := rfl
theorem i_127_74 : ins 127 74 = some (.iload 4, 76, 4, 0, 0, 0) := rfl
theorem i_127_76 : ins 127 76 = some (.iaload, 77, 0, 0, 0, 0) := rfl
theorem i_127_77 : ins 127 77 = some (.imul, 78, 0, 0, 0, 0) := rfl
theorem i_127_78 : ins 127 78 = some (.isub, 79, 0, 0, 0, 0) := rfl
theorem i_127_79 : ins 127 79 = some (.istore 6, 81, 6, 0, 0, 0) := rfl
theorem i_127_81 : ins 127 81 = some (.aload_n 0, 82, 0, 0, 0, 0) := rfl
theorem i_127_82 : ins 127 82 = some (.iload 5, 84, 5, 0, 0, 0) := rfl
theorem i_127_84 : ins 127 84 = some (.iload 6, 86, 6, 0, 0, 0) := rfl
theorem i_127_86 : ins 127 86 = some (.invokevirtual 233, 89, 121, 0, 3, 0) := rfl
theorem i_127_89 : ins 127 89 = some (.ireturn, 90, 0, 0, 0, 0) := rfl
theorem S127_0 {Q : Ou → Prop} {M : Mem} {κ : Kp} (hκ : Rd κ) {n i j : Nat} (hn : n ≤ 10) (hi : i < n) (hj : j < n) {ii : Int32}
    (k1 : Q (.inl (some (.int (mx (if (M 165 ((10 * i) + j)) = (-100000) then (-100000) else ((M 165 ((10 * i) + j)) - (if i < j then 0 else ii))) (if (M 166 ((10 * i) + j)) = (-100000) then (-100000) else ((M 166 ((10 * i) + j)) - (ii * (M 167 ((10 * i) + j)))))))), M, κ))
    : RT 127 (0, [.ref 134, .int (nI i), .int (nI j), .int ii, UU, UU, UU], [], M, κ) Q := by
  refine w_push i_127_0 rfl ?_
  refine w_load i_127_2 rfl rfl ?_
  refine w_bin (w := (nI (10 * i))) i_127_3 rfl (nI_mul 10 i) ?_
  refine w_load i_127_4 rfl rfl ?_
  refine w_bin (w := (nI ((10 * i) + j))) i_127_5 rfl (nI_add (10 * i) j) ?_
  refine w_store (l1 := [.ref 134, .int (nI i), .int (nI j), .int ii, .int (nI ((10 * i) + j)), UU, UU]) i_127_6 rfl (Nat.le_of_ble_eq_true rfl) rfl ?_
  refine w_load i_127_8 rfl rfl ?_
  refine w_getR 165 i_127_9 hκ (⟨rfl, by decide⟩ : isOb 134 7) rfl rfl ?_
  refine w_load i_127_12 rfl rfl ?_
  refine w_ialdN (e := ((10 * i) + j)) (v := (M 165 ((10 * i) + j))) i_127_14 hκ (⟨rfl, rfl, by decide⟩ : isAr 165 100) (by omega) (by decide) (rfl) ?_
  refine w_push i_127_15 rfl ?_
  have K1 : RT 127 (43, [.ref 134, .int (nI i), .int (nI j), .int ii, .int (nI ((10 * i) + j)), UU, UU], [.int (if (M 165 ((10 * i) + j)) = (-100000) then (-100000) else ((M 165 ((10 * i) + j)) - (if i < j then 0 else ii)))], M, κ) Q := by
    refine w_store (l1 := [.ref 134, .int (nI i), .int (nI j), .int ii, .int (nI ((10 * i) + j)), .int (if (M 165 ((10 * i) + j)) = (-100000) then (-100000) else ((M 165 ((10 * i) + j)) - (if i < j then 0 else ii))), UU]) i_127_43 rfl (Nat.le_of_ble_eq_true rfl) rfl ?_
    refine w_load i_127_45 rfl rfl ?_
    refine w_getR 166 i_127_46 hκ (⟨rfl, by decide⟩ : isOb 134 7) rfl rfl ?_
    refine w_load i_127_49 rfl rfl ?_
    refine w_ialdN (e := ((10 * i) + j)) (v := (M 166 ((10 * i) + j))) i_127_51 hκ (⟨rfl, rfl, by decide⟩ : isAr 166 100) (by omega) (by decide) (rfl) ?_
    refine w_push i_127_52 rfl ?_
    have K2 : RT 127 (79, [.ref 134, .int (nI i), .int (nI j), .int ii, .int (nI ((10 * i) + j)), .int (if (M 165 ((10 * i) + j)) = (-100000) then (-100000) else ((M 165 ((10 * i) + j)) - (if i < j then 0 else ii))), UU], [.int (if (M 166 ((10 * i) + j)) = (-100000) then (-100000) else ((M 166 ((10 * i) + j)) - (ii * (M 167 ((10 * i) + j)))))], M, κ) Q := by
      refine w_store (l1 := [.ref 134, .int (nI i), .int (nI j), .int ii, .int (nI ((10 * i) + j)), .int (if (M 165 ((10 * i) + j)) = (-100000) then (-100000) else ((M 165 ((10 * i) + j)) - (if i < j then 0 else ii))), .int (if (M 166 ((10 * i) + j)) = (-100000) then (-100000) else ((M 166 ((10 * i) + j)) - (ii * (M 167 ((10 * i) + j)))))]) i_127_79 rfl (Nat.le_of_ble_eq_true rfl) rfl ?_
      refine w_load i_127_81 rfl rfl ?_
      refine w_load i_127_82 rfl rfl ?_
      refine w_load i_127_84 rfl rfl ?_
      refine w_callV (i := _) i_127_86 ⟨by decide, by decide, by decide, rfl⟩ hκ (⟨rfl, by decide⟩ : isOb 134 7) (av := [.int (if (M 165 ((10 * i) + j)) = (-100000) then (-100000) else ((M 165 ((10 * i) + j)) - (if i < j then 0 else ii))), .int (if (M 166 ((10 * i) + j)) = (-100000) then (-100000) else ((M 166 ((10 * i) + j)) - (ii * (M 167 ((10 * i) + j)))))]) (rest := []) rfl rfl (Nat.le_of_ble_eq_true rfl) (v := some (.int (mx (if (M 165 ((10 * i) + j)) = (-100000) then (-100000) else ((M 165 ((10 * i) + j)) - (if i < j then 0 else ii))) (if (M 166 ((10 * i) + j)) = (-100000) then (-100000) else ((M 166 ((10 * i) + j)) - (ii * (M 167 ((10 * i) + j)))))))) (c121 hκ) ?_
      exact w_iret i_127_89 (.inl rfl) (k1)
    refine w_if2n ((M 166 ((10 * i) + j)) = (-100000)) i_127_54 cI_ne ?_ ?_
    · intro h3
      refine w_push i_127_57 rfl ?_
      refine w_goto i_127_59 ?_
      exact (by first | exact (K2) | (have K9 := K2; simp only [↓if_pos h3] at K9 ⊢; exact (K9)))
    · intro h4
      refine w_load i_127_62 rfl rfl ?_
      refine w_getR 166 i_127_63 hκ (⟨rfl, by decide⟩ : isOb 134 7) rfl rfl ?_
      refine w_load i_127_66 rfl rfl ?_
      refine w_ialdN (e := ((10 * i) + j)) (v := (M 166 ((10 * i) + j))) i_127_68 hκ (⟨rfl, rfl, by decide⟩ : isAr 166 100) (by omega) (by decide) (rfl) ?_
      refine w_load i_127_69 rfl rfl ?_
      refine w_load i_127_70 rfl rfl ?_
      refine w_getR 167 i_127_71 hκ (⟨rfl, by decide⟩ : isOb 134 7) rfl rfl ?_
      refine w_load i_127_74 rfl rfl ?_
      refine w_ialdN (e := ((10 * i) + j)) (v := (M 167 ((10 * i) + j))) i_127_76 hκ (⟨rfl, rfl, by decide⟩ : isAr 167 100) (by omega) (by decide) (rfl) ?_
      refine w_bin (w := (ii * (M 167 ((10 * i) + j)))) i_127_77 rfl rfl ?_
      refine w_bin (w := ((M 166 ((10 * i) + j)) - (ii * (M 167 ((10 * i) + j))))) i_127_78 rfl rfl ?_
      exact (by first | exact (K2) | (have K9 := K2; simp only [↓if_neg h4] at K9 ⊢; exact (K9)))
  refine w_if2n ((M 165 ((10 * i) + j)) = (-100000)) i_127_17 cI_ne ?_ ?_
  · intro h5
    refine w_push i_127_20 rfl ?_
    refine w_goto i_127_22 ?_
    exact (by first | exact (K1) | (have K9 := K1; simp only [↓if_pos h5] at K9 ⊢; exact (K9)))
  · intro h6
    refine w_load i_127_25 rfl rfl ?_
    refine w_getR 165 i_127_26 hκ (⟨rfl, by decide⟩ : isOb 134 7) rfl rfl ?_
    refine w_load i_127_29 rfl rfl ?_
    refine w_ialdN (e := ((10 * i) + j)) (v := (M 165 ((10 * i) + j))) i_127_31 hκ (⟨rfl, rfl, by decide⟩ : isAr 165 100) (by omega) (by decide) (rfl) ?_
    refine w_load i_127_32 rfl rfl ?_
    refine w_load i_127_33 rfl rfl ?_
    have K7 : RT 127 (42, [.ref 134, .int (nI i), .int (nI j), .int ii, .int (nI ((10 * i) + j)), UU, UU], [.int (if i < j then 0 else ii), .int (M 165 ((10 * i) + j))], M, κ) Q := by
      refine w_bin (w := ((M 165 ((10 * i) + j)) - (if i < j then 0 else ii))) i_127_42 rfl rfl ?_
      exact (by first | exact (K1) | (have K9 := K1; simp only [↓if_neg h6] at K9 ⊢; exact (K9)))
    refine w_if2n (i < j) i_127_34 (cN_ge (a := i) (b := j) (by omega) (by omega)) ?_ ?_
    · intro h8
      refine w_push i_127_37 rfl ?_
      refine w_goto i_127_38 ?_
      exact (by first | exact (K7) | (have K9 := K7; simp only [↓if_pos h8] at K9 ⊢; exact (K9)))
    · intro h9
      refine w_load i_127_41 rfl rfl ?_
      exact (by first | exact (K7) | (have K9 := K7; simp only [↓if_neg h9] at K9 ⊢; exact (K9)))
theorem i_128_0 : ins 128 0 = some (.bipush 10, 2, 0, 0, 0, 10) := rfl
theorem i_128_2 : ins 128 2 = some (.iload_n 1, 3, 1, 0, 0, 0) := rfl
theorem i_128_3 : ins 128 3 = some (.imul, 4, 0, 0, 0, 0) := rfl
theorem i_128_4 : ins 128 4 = some (.iload_n 2, 5, 2, 0, 0, 0) := rfl
theorem i_128_5 : ins 128 5 = some (.iadd, 6, 0, 0, 0, 0) := rfl
theorem i_128_6 : ins 128 6 = some (.istore_n 3, 7, 3, 0, 0, 0) := rfl
theorem i_128_7 : ins 128 7 = some (.iload_n 1, 8, 1, 0, 0, 0) := rfl
theorem i_128_8 : ins 128 8 = some (.iload_n 2, 9, 2, 0, 0, 0) := rfl
theorem i_128_9 : ins 128 9 = some (.if_icmp .ge 12, 12, 21, 0, 0, 0) := rfl
theorem i_128_12 : ins 128 12 = some (.aload_n 0, 13, 0, 0, 0, 0) := rfl
theorem i_128_13 : ins 128 13 = some (.getfield 120, 16, 7, 40, 0, 0) := rfl
theorem i_128_16 : ins 128 16 = some (.iload_n 3, 17, 3, 0, 0, 0) := rfl
theorem i_128_17 : ins 128 17 = some (.iaload, 18, 0, 0, 0, 0) := rfl
theorem i_128_18 : ins 128 18 = some (.goto 5, 21, 23, 0, 0, 0) := rfl
theorem i_128_21 : ins 128 21 = some (.ldc 222, 23, 222, 0, 0, (-100000)) := rfl
theorem i_128_23 : ins 128 23 = some (.istore 4, 25, 4, 0, 0, 0) := rfl
theorem i_128_25 : ins 128 25 = some (.aload_n 0, 26, 0, 0, 0, 0) := rfl
theorem i_128_26 : ins 128 26 = some (.getfield 123, 29, 7, 41, 0, 0) := rfl
theorem i_128_29 : ins 128 29 = some (.iload_n 3, 30, 3, 0, 0, 0) := rfl
theorem i_128_30 : ins 128 30 = some (.iaload, 31, 0, 0, 0, 0) := rfl
theorem i_128_31 : ins 128 31 = some (.ldc 222, 33, 222, 0, 0, (-100000)) := rfl
theorem i_128_33 : ins 128 33 = some (.if_icmp .eq 27, 36, 60, 0, 0, 0) := rfl
theorem i_128_36 : ins 128 36 = some (.aload_n 0, 37, 0, 0, 0, 0) := rfl
theorem i_128_37 : ins 128 37 = some (.getfield 126, 40, 7, 42, 0, 0) := rfl
theorem i_128_40 : ins 128 40 = some (.iload_n 3, 41, 3, 0, 0, 0) := rfl
theorem i_128_41 : ins 128 41 = some (.iaload, 42, 0, 0, 0, 0) := rfl
theorem i_128_42 : ins 128 42 = some (.ifCond .ne 18, 45, 60, 0, 0, 0) := rfl
theorem i_128_45 : ins 128 45 = some (.aload_n 0, 46, 0, 0, 0, 0) := rfl
theorem i_128_46 : ins 128 46 = some (.iload 4, 48, 4, 0, 0, 0) := rfl
theorem i_128_48 : ins 128 48 = some (.aload_n 0, 49, 0, 0, 0, 0) := rfl
theorem i_128_49 : ins 128 49 = some (.getfield 123, 52, 7, 41, 0, 0) := rfl
theorem i_128_52 : ins 128 52 = some (.iload_n 3, 53, 3, 0, 0, 0) := rfl
theorem i_128_53 : ins 128 53 = some (.iaload, 54, 0, 0, 0, 0) := rfl
theorem i_128_54 : ins 128 54 = some (.invokevirtual 233, 57, 121, 0, 3, 0) := rfl
theorem i_128_57 : ins 128 57 = some (.goto 5, 60, 62, 0, 0, 0) := rfl
theorem i_128_60 : ins 128 60 = some (.iload 4, 62, 4, 0, 0, 0) := rfl
theorem i_128_62 : ins 128 62 = some (.ireturn, 63, 0, 0, 0, 0) := rfl
theorem S128_0 {Q : Ou → Prop} {M : Mem} {κ : Kp} (hκ : Rd κ) {n i j : Nat} (hn : n ≤ 10) (hi : i < n) (hj : j < n) 
    (k1 : Q (.inl (some (.int (if (M 166 ((10 * i) + j)) = (-100000) then (if i < j then (M 165 ((10 * i) + j)) else (-100000)) else (if (M 167 ((10 * i) + j)) = 0 then (mx (if i < j then (M 165 ((10 * i) + j)) else (-100000)) (M 166 ((10 * i) + j))) else (if i < j then (M 165 ((10 * i) + j)) else (-100000)))))), M, κ))
    : RT 128 (0, [.ref 134, .int (nI i), .int (nI j), UU, UU], [], M, κ) Q := by
  refine w_push i_128_0 rfl ?_
  refine w_load i_128_2 rfl rfl ?_
  refine w_bin (w := (nI (10 * i))) i_128_3 rfl (nI_mul 10 i) ?_
  refine w_load i_128_4 rfl rfl ?_
  refine w_bin (w := (nI ((10 * i) + j))) i_128_5 rfl (nI_add (10 * i) j) ?_
  refine w_store (l1 := [.ref 134, .int (nI i), .int (nI j), .int (nI ((10 * i) + j)), UU]) i_128_6 rfl (Nat.le_of_ble_eq_true rfl) rfl ?_
  refine w_load i_128_7 rfl rfl ?_
  refine w_load i_128_8 rfl rfl ?_
  have K1 : RT 128 (23, [.ref 134, .int (nI i), .int (nI j), .int (nI ((10 * i) + j)), UU], [.int (if i < j then (M 165 ((10 * i) + j)) else (-100000))], M, κ) Q := by
    refine w_store (l1 := [.ref 134, .int (nI i), .int (nI j), .int (nI ((10 * i) + j)), .int (if i < j then (M 165 ((10 * i) + j)) else (-100000))]) i_128_23 rfl (Nat.le_of_ble_eq_true rfl) rfl ?_
    refine w_load i_128_25 rfl rfl ?_
    refine w_getR 166 i_128_26 hκ (⟨rfl, by decide⟩ : isOb 134 7) rfl rfl ?_
    refine w_load i_128_29 rfl rfl ?_
    refine w_ialdN (e := ((10 * i) + j)) (v := (M 166 ((10 * i) + j))) i_128_30 hκ (⟨rfl, rfl, by decide⟩ : isAr 166 100) (by omega) (by decide) (rfl) ?_
    refine w_push i_128_31 rfl ?_
    have K2 : RT 128 (62, [.ref 134, .int (nI i), .int (nI j), .int (nI ((10 * i) + j)), .int (if i < j then (M 165 ((10 * i) + j)) else (-100000))], [.int (if (M 166 ((10 * i) + j)) = (-100000) then (if i < j then (M 165 ((10 * i) + j)) else (-100000)) else (if (M 167 ((10 * i) + j)) = 0 then (mx (if i < j then (M 165 ((10 * i) + j)) else (-100000)) (M 166 ((10 * i) + j))) else (if i < j then (M 165 ((10 * i) + j)) else (-100000))))], M, κ) Q := by
      exact w_iret i_128_62 (.inl rfl) (k1)
    refine w_if2 ((M 166 ((10 * i) + j)) = (-100000)) i_128_33 cI_eq ?_ ?_
    · intro h3
      refine w_load i_128_60 rfl rfl ?_
      exact (by first | exact (K2) | (have K9 := K2; simp only [↓if_pos h3] at K9 ⊢; exact (K9)))
    · intro h4
      refine w_load i_128_36 rfl rfl ?_
      refine w_getR 167 i_128_37 hκ (⟨rfl, by decide⟩ : isOb 134 7) rfl rfl ?_
      refine w_load i_128_40 rfl rfl ?_
      refine w_ialdN (e := ((10 * i) + j)) (v := (M 167 ((10 * i) + j))) i_128_41 hκ (⟨rfl, rfl, by decide⟩ : isAr 167 100) (by omega) (by decide) (rfl) ?_
      refine w_if0n ((M 167 ((10 * i) + j)) = 0) i_128_42 cI0_ne ?_ ?_
      · intro h5
        refine w_load i_128_45 rfl rfl ?_
        refine w_load i_128_46 rfl rfl ?_
        refine w_load i_128_48 rfl rfl ?_
        refine w_getR 166 i_128_49 hκ (⟨rfl, by decide⟩ : isOb 134 7) rfl rfl ?_
        refine w_load i_128_52 rfl rfl ?_
        refine w_ialdN (e := ((10 * i) + j)) (v := (M 166 ((10 * i) + j))) i_128_53 hκ (⟨rfl, rfl, by decide⟩ : isAr 166 100) (by omega) (by decide) (rfl) ?_
        refine w_callV (i := _) i_128_54 ⟨by decide, by decide, by decide, rfl⟩ hκ (⟨rfl, by decide⟩ : isOb 134 7) (av := [.int (if i < j then (M 165 ((10 * i) + j)) else (-100000)), .int (M 166 ((10 * i) + j))]) (rest := []) rfl rfl (Nat.le_of_ble_eq_true rfl) (v := some (.int (mx (if i < j then (M 165 ((10 * i) + j)) else (-100000)) (M 166 ((10 * i) + j))))) (c121 hκ) ?_
        refine w_goto i_128_57 ?_
        exact (by first | exact (K2) | (have K9 := K2; simp only [↓if_neg h4, ↓if_pos h5] at K9 ⊢; exact (K9)))
      · intro h6
        refine w_load i_128_60 rfl rfl ?_
        exact (by first | exact (K2) | (have K9 := K2; simp only [↓if_neg h4, ↓if_neg h6] at K9 ⊢; exact (K9)))
  refine w_if2n (i < j) i_128_9 (cN_ge (a := i) (b := j) (by omega) (by omega)) ?_ ?_
  · intro h7
    refine w_load i_128_12 rfl rfl ?_
    refine w_getR 165 i_128_13 hκ (⟨rfl, by decide⟩ : isOb 134 7) rfl rfl ?_
    refine w_load i_128_16 rfl rfl ?_
    refine w_ialdN (e := ((10 * i) + j)) (v := (M 165 ((10 * i) + j))) i_128_17 hκ (⟨rfl, rfl, by decide⟩ : isAr 165 100) (by omega) (by decide) (rfl) ?_
    refine w_goto i_128_18 ?_
    exact (by first | exact (K1) | (have K9 := K1; simp only [↓if_pos h7] at K9 ⊢; exact (K9)))
  · intro h8
    refine w_push i_128_21 rfl ?_
    exact (by first | exact (K1) | (have K9 := K1; simp only [↓if_neg h8] at K9 ⊢; exact (K9)))
theorem oab_u {L : Nat → Int32} {O : Op} {lp : Bool} {n i j : Nat} (hL : Lok L n) (hi : i < n) (hj : j < n) : oab (-100000) ((uE L O lp i j).map (fun p => p.1)) := by
  intro w h
  cases q : uE L O lp i j with
  | none => rw [q] at h; cases h
  | some p =>
    obtain ⟨d, r⟩ := p
    rw [q] at h
    cases h
    have := (uE_some hL hi hj q).1
    rw [cNV]
    show (-100000 : Int) < d.toInt
    omega
theorem oab_m {O : Op} {lp : Bool} {n i j : Nat} : oab (-100000) ((mE O n lp i j).map (fun p => p.1)) := by
  intro w h
  cases q : mE O n lp i j with
  | none => rw [q] at h; cases h
  | some p =>
    obtain ⟨d, r⟩ := p
    rw [q] at h
    cases h
    have := (mE_some q).1
    rw [cNV]
    show (-100000 : Int) < d.toInt
    omega
theorem i32_mul0 {a : Int32} : a * nI 0 = 0 := by
  apply Int32.toInt_inj.mp
  simp [nI]
theorem i32_mul1 {a : Int32} : a * nI 1 = a := by
  apply Int32.toInt_inj.mp
  simp [nI]
theorem asks_u {L : Nat → Int32} {O : Op} {lp : Bool} {n i j : Nat} {ii : Int32} (hL : Lok L n) (hi : i < n) (hj : j < n) : (if gu L O lp i j = (-100000) then (-100000) else gu L O lp i j - (if i < j then 0 else ii)) = enc (-100000) (wE ii 64 (uE L O lp i j)) := by
  refine (enc_ow (oab_u hL hi hj) (fun w => w - (if i < j then 0 else ii))).trans ?_
  cases q : uE L O lp i j with
  | none => rfl
  | some p =>
    obtain ⟨d, r⟩ := p
    have h := (uE_some hL hi hj q).2.1
    by_cases c : i < j
    · rw [if_pos c] at h
      subst h
      show d - (if i < j then 0 else ii) = enc (-100000) (if (64 : Int32) < nI 0 then none else some (d - ii * nI 0))
      rw [if_neg (show ¬ (64 : Int32) < nI 0 by decide), if_pos c, i32_mul0]
      rfl
    · rw [if_neg c] at h
      subst h
      show d - (if i < j then 0 else ii) = enc (-100000) (if (64 : Int32) < nI 1 then none else some (d - ii * nI 1))
      rw [if_neg (show ¬ (64 : Int32) < nI 1 by decide), if_neg c, i32_mul1]
      rfl
theorem asks_m {O : Op} {lp : Bool} {n i j : Nat} {ii : Int32} : (if gm1 O n lp i j = (-100000) then (-100000) else gm1 O n lp i j - ii * gm2 O n lp i j) = enc (-100000) (wE ii 64 (mE O n lp i j)) := by
  refine (enc_ow oab_m (fun w => w - ii * gm2 O n lp i j)).trans ?_
  unfold gm2
  cases q : mE O n lp i j with
  | none => rfl
  | some p =>
    obtain ⟨d, r⟩ := p
    have h := (mE_some q).2.1
    show d - ii * r = enc (-100000) (if (64 : Int32) < r then none else some (d - ii * r))
    rw [if_neg (by rw [ltI, show (64 : Int32).toInt = 64 by decide]; omega)]
    rfl
theorem oi {a b : Int32} (h : a = b) : ((Sum.inl (some (Value.int a)), M, κ) : Ou) = (Sum.inl (some (Value.int b)), M, κ) := by rw [h]
theorem c127 (hκ : Rd κ) {n i j : Nat} {lp : Bool} {O : Op} {L : Nat → Int32} {ii : Int32} (hn : n ≤ 10) (hi : i < n) (hj : j < n) (hii : 0 ≤ ii.toInt ∧ ii.toInt ≤ 1000) (hL : Lok L n) (g : GM M n lp O L n 0) : Run 127 (0, entL 127 [.ref 134, .int (nI i), .int (nI j), .int ii], [], M, κ) (.inl (some (.int (enc (-100000) (Wt ii 64 n lp O L i j)))), M, κ) := by
  refine RT_run (S127_0 hκ hn hi hj ?_)
  obtain ⟨h1, h2, h3⟩ := g i j hi hj (.inl hi)
  rw [h1, h2, h3]
  have a1 : oab (-100000) (wE ii 64 (uE L O lp i j)) := oab_of (fun w h => wE_u hii hL hi hj h) (by decide)
  have a2 : oab (-100000) (wE ii 64 (mE O n lp i j)) := oab_of (fun w h => wE_m hii h) (by decide)
  have e1 := asks_u (lp := lp) (O := O) (ii := ii) hL hi hj
  have e2 := asks_m (lp := lp) (O := O) (n := n) (i := i) (j := j) (ii := ii)
  unfold gu at e1
  unfold gm1 gm2 at e2
  rw [e1, e2, Wt, enc_mx a1 a2]
theorem c128 (hκ : Rd κ) {n i j : Nat} {lp : Bool} {O : Op} {L : Nat → Int32} (hn : n ≤ 10) (hj : j < n) (hij : i < j) (hL : Lok L n) (g : GM M n lp O L n 0) : Run 128 (0, entL 128 [.ref 134, .int (nI i), .int (nI j)], [], M, κ) (.inl (some (.int (enc (-100000) (Wt 0 0 n lp O L i j)))), M, κ) := by
  have hi : i < n := by omega
  refine RT_run (S128_0 hκ hn hi hj ?_)
  obtain ⟨h1, h2, h3⟩ := g i j hi hj (.inl hi)
  rw [h1, h2, h3, if_pos hij]
  have hii : 0 ≤ (0 : Int32).toInt ∧ (0 : Int32).toInt ≤ 1000 := by decide
  have a1 : oab (-100000) (wE 0 0 (uE L O lp i j)) := oab_of (fun w h => wE_u hii hL hi hj h) (by decide)
  have a2 : oab (-100000) (wE 0 0 (mE O n lp i j)) := oab_of (fun w h => wE_m hii h) (by decide)
  have z0 : ∀ d r : Int32, d - 0 * r = d := fun d r => by
    apply Int32.toInt_inj.mp
    simp
  have e1 : wE 0 0 (uE L O lp i j) = (uE L O lp i j).map (fun p => p.1) := by
    cases q : uE L O lp i j with
    | none => rfl
    | some p =>
      obtain ⟨d, r⟩ := p
      have h := (uE_some hL hi hj q).2.1
      rw [if_pos hij] at h
      subst h
      show (if (0 : Int32) < nI 0 then none else some (d - 0 * nI 0)) = some d
      rw [if_neg (by decide), z0]
  rw [Wt, enc_mx a1 a2, e1]
  refine oi ?_
  cases q : mE O n lp i j with
  | none =>
    show (if (-100000 : Int32) = -100000 then _ else _) = mx _ (-100000)
    rw [if_pos rfl]
    have hh := oab_u (lp := lp) (O := O) hL hi hj
    cases q2 : uE L O lp i j with
    | none => rfl
    | some p =>
      have := hh p.1 (by rw [q2]; rfl)
      show p.1 = mx p.1 (-100000)
      apply Int32.toInt_inj.mp
      rw [mx_toInt]
      omega
  | some p =>
    obtain ⟨d, r⟩ := p
    have h := mE_some q
    show (if d = -100000 then _ else if r = 0 then mx _ d else _) = mx _ (enc (-100000) (if (0 : Int32) < r then none else some (d - 0 * r)))
    rw [if_neg (enc_ne (by rw [cNV]; omega)), z0]
    have hr : (0 : Int32) < r ↔ ¬ r = 0 := by
      rw [ltI, eI, c0]
      omega
    by_cases c : r = 0
    · rw [if_pos c, if_neg (fun z => hr.mp z c)]
      rfl
    · rw [if_neg c, if_pos (hr.mpr c)]
      have hh := oab_u (lp := lp) (O := O) hL hi hj
      cases q2 : uE L O lp i j with
      | none => rfl
      | some p =>
        have := hh p.1 (by rw [q2]; rfl)
        show p.1 = mx p.1 (-100000)
        apply Int32.toInt_inj.mp
        rw [mx_toInt]
        omega
end P_28_asks
