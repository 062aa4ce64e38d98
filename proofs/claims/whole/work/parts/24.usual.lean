/-! EDGES OF VARIABLES AND ORDER -/
section P_24_usual
variable {Q : Ou → Prop} {M M0 : Mem} {κ : Kp}
def omx : Option Int32 → Option Int32 → Option Int32
  | none, b => b
  | some a, none => some a
  | some a, some b => some (mx a b)
def oif (c : Bool) (x : Int32) : Option Int32 := if c = true then some x else none
def enc (s : Int32) : Option Int32 → Int32
  | none => s
  | some w => w
theorem mx_toInt (a b : Int32) : (mx a b).toInt = max a.toInt b.toInt := by
  unfold mx
  split
  · rename_i h
    rw [Int32.lt_iff_toInt_lt] at h
    omega
  · rename_i h
    rw [Int32.lt_iff_toInt_lt] at h
    omega
/-- every value lies above s -/
def oab (s : Int32) (a : Option Int32) : Prop := ∀ w, a = some w → s.toInt < w.toInt
theorem oab_mx {s : Int32} {a b : Option Int32} (ha : oab s a) (hb : oab s b) : oab s (omx a b) := by
  intro w h
  match a, b, h with
  | none, b, h => exact hb w h
  | some a, none, h => exact ha w h
  | some a, some b, h =>
    cases h
    have := ha a rfl
    rw [mx_toInt]
    omega
theorem enc_mx {s : Int32} {a b : Option Int32} (ha : oab s a) (hb : oab s b) : enc s (omx a b) = mx (enc s a) (enc s b) := by
  apply Int32.toInt_inj.mp
  rw [mx_toInt]
  match a, b with
  | none, none => show s.toInt = max s.toInt s.toInt; omega
  | none, some b => have := hb b rfl; show b.toInt = max s.toInt b.toInt; omega
  | some a, none => have := ha a rfl; show a.toInt = max a.toInt s.toInt; omega
  | some a, some b => exact mx_toInt a b
theorem enc_if {s x : Int32} {c : Bool} {a : Option Int32} (ha : oab s a) (hx : c = true → s.toInt < x.toInt) : enc s (omx a (oif c x)) = if c = true then mx (enc s a) x else enc s a := by
  cases c with
  | false =>
    rw [if_neg (by decide)]
    match a with
    | none => rfl
    | some a => rfl
  | true =>
    rw [if_pos rfl]
    exact enc_mx ha (fun w h => by cases h; exact hx rfl)
theorem oab_if {s x : Int32} {c : Bool} (hx : s.toInt < x.toInt) : oab s (oif c x) := by
  intro w h
  cases c with
  | false => cases h
  | true => cases h; exact hx
/-- the edge of variables and order from i to j, not yet weighed -/
def usO (L : Nat → Int32) (O : Op) (i j : Nat) : Option Int32 := omx (omx (omx (omx none (oif (rd O j (wr O i)) (L i))) (oif (rd O i (wr O j)) (1 - L j))) (oif (decide (¬ wr O i = -1 ∧ wr O i = wr O j)) (L i - L j + 1))) (oif (ordF (O 0 i) (O 0 j)) 1)
def Lok (L : Nat → Int32) (n : Nat) : Prop := ∀ k, k < n → 1 ≤ (L k).toInt ∧ (L k).toInt ≤ 8
theorem l_sub {a b : Int32} (ha : -1000000 ≤ a.toInt ∧ a.toInt ≤ 1000000) (hb : -1000000 ≤ b.toInt ∧ b.toInt ≤ 1000000) : (a - b).toInt = a.toInt - b.toInt := by
  rw [Int32.toInt_sub, Int.bmod_eq_of_le (by omega) (by omega)]
theorem l_add {a b : Int32} (ha : -1000000 ≤ a.toInt ∧ a.toInt ≤ 1000000) (hb : -1000000 ≤ b.toInt ∧ b.toInt ≤ 1000000) : (a + b).toInt = a.toInt + b.toInt := by
  rw [Int32.toInt_add, Int.bmod_eq_of_le (by omega) (by omega)]
theorem t1 : (1 : Int32).toInt = 1 := by decide
theorem us_rng {L : Nat → Int32} {O : Op} {n i j : Nat} (hL : Lok L n) (hi : i < n) (hj : j < n) {w : Int32} (h : usO L O i j = some w) : -8 ≤ w.toInt ∧ w.toInt ≤ 8 := by
  have h1 := hL i hi
  have h2 := hL j hj
  have x2 : (1 - L j).toInt = 1 - (L j).toInt := by rw [l_sub (by rw [t1]; omega) (by omega), t1]
  have x3 : (L i - L j + 1).toInt = (L i).toInt - (L j).toInt + 1 := by
    have := l_sub (a := L i) (b := L j) (by omega) (by omega)
    rw [l_add (by omega) (by rw [t1]; omega), t1, this]
  have key : ∀ (a : Option Int32) (c : Bool) (x : Int32), (∀ w, a = some w → -8 ≤ w.toInt ∧ w.toInt ≤ 8) → (-8 ≤ x.toInt ∧ x.toInt ≤ 8) → ∀ w, omx a (oif c x) = some w → -8 ≤ w.toInt ∧ w.toInt ≤ 8 := by
    intro a c x ha hx w h
    cases c with
    | false =>
      match a, h with
      | some a, h => exact ha w h
    | true =>
      match a, h with
      | none, h => cases h; exact hx
      | some a, h =>
        cases h
        have := ha a rfl
        rw [mx_toInt]
        omega
  refine key _ _ _ (key _ _ _ (key _ _ _ (key _ _ _ (fun w h => by cases h) ?_) ?_) ?_) ?_ w h <;> first | omega | (rw [t1]; omega)
theorem us_enc {L : Nat → Int32} {O : Op} {n i j : Nat} {s : Int32} (hs : s.toInt < -8) (hL : Lok L n) (hi : i < n) (hj : j < n) : enc s (usO L O i j) = (if ordF (O 0 i) (O 0 j) = true then mx (if ¬ wr O i = -1 ∧ wr O i = wr O j then mx (if rd O i (wr O j) = true then mx (if rd O j (wr O i) = true then mx s (L i) else s) (1 - L j) else (if rd O j (wr O i) = true then mx s (L i) else s)) (L i - L j + 1) else (if rd O i (wr O j) = true then mx (if rd O j (wr O i) = true then mx s (L i) else s) (1 - L j) else (if rd O j (wr O i) = true then mx s (L i) else s))) 1 else (if ¬ wr O i = -1 ∧ wr O i = wr O j then mx (if rd O i (wr O j) = true then mx (if rd O j (wr O i) = true then mx s (L i) else s) (1 - L j) else (if rd O j (wr O i) = true then mx s (L i) else s)) (L i - L j + 1) else (if rd O i (wr O j) = true then mx (if rd O j (wr O i) = true then mx s (L i) else s) (1 - L j) else (if rd O j (wr O i) = true then mx s (L i) else s)))) := by
  have h1 := hL i hi
  have h2 := hL j hj
  have x2 : (1 - L j).toInt = 1 - (L j).toInt := by rw [l_sub (by rw [t1]; omega) (by omega), t1]
  have x3 : (L i - L j + 1).toInt = (L i).toInt - (L j).toInt + 1 := by
    have := l_sub (a := L i) (b := L j) (by omega) (by omega)
    rw [l_add (by omega) (by rw [t1]; omega), t1, this]
  unfold usO
  have a0 : oab s none := fun w h => by cases h
  have a1 := oab_mx a0 (oab_if (c := rd O j (wr O i)) (x := L i) (s := s) (by omega))
  have a2 := oab_mx a1 (oab_if (c := rd O i (wr O j)) (x := 1 - L j) (s := s) (by omega))
  have a3 := oab_mx a2 (oab_if (c := decide (¬ wr O i = -1 ∧ wr O i = wr O j)) (x := L i - L j + 1) (s := s) (by omega))
  rw [enc_if a3 (fun _ => by rw [t1]; omega), enc_if a2 (fun _ => by omega), enc_if a1 (fun _ => by omega), enc_if a0 (fun _ => by omega)]
  simp only [decide_eq_true_eq]
  rfl
theorem i_19_0 : ins 19 0 = some (.ldc 85, 2, 85, 0, 0, (-1000000)) := rfl
theorem i_19_2 : ins 19 2 = some (.istore 4, 4, 4, 0, 0, 0) := rfl
theorem i_19_4 : ins 19 4 = some (.aload_n 1, 5, 1, 0, 0, 0) := rfl
theorem i_19_5 : ins 19 5 = some (.iload_n 3, 6, 3, 0, 0, 0) := rfl
theorem i_19_6 : ins 19 6 = some (.aload_n 1, 7, 1, 0, 0, 0) := rfl
theorem i_19_7 : ins 19 7 = some (.iload_n 2, 8, 2, 0, 0, 0) := rfl
theorem i_19_8 : ins 19 8 = some (.invokevirtual 86, 11, 9, 0, 2, 0) := rfl
theorem i_19_11 : ins 19 11 = some (.invokevirtual 89, 14, 11, 0, 3, 0) := rfl
theorem i_19_14 : ins 19 14 = some (.ifCond .eq 16, 17, 30, 0, 0, 0) := rfl
theorem i_19_17 : ins 19 17 = some (.iload 4, 19, 4, 0, 0, 0) := rfl
theorem i_19_19 : ins 19 19 = some (.aload_n 0, 20, 0, 0, 0, 0) := rfl
theorem i_19_20 : ins 19 20 = some (.getfield 29, 23, 1, 5, 0, 0) := rfl
theorem i_19_23 : ins 19 23 = some (.iload_n 2, 24, 2, 0, 0, 0) := rfl
theorem i_19_24 : ins 19 24 = some (.iaload, 25, 0, 0, 0, 0) := rfl
theorem i_19_25 : ins 19 25 = some (.invokestatic 93, 28, 164, 1, 2, 0) := rfl
theorem i_19_28 : ins 19 28 = some (.istore 4, 30, 4, 0, 0, 0) := rfl
theorem i_19_30 : ins 19 30 = some (.aload_n 1, 31, 1, 0, 0, 0) := rfl
theorem i_19_31 : ins 19 31 = some (.iload_n 2, 32, 2, 0, 0, 0) := rfl
theorem i_19_32 : ins 19 32 = some (.aload_n 1, 33, 1, 0, 0, 0) := rfl
theorem i_19_33 : ins 19 33 = some (.iload_n 3, 34, 3, 0, 0, 0) := rfl
theorem i_19_34 : ins 19 34 = some (.invokevirtual 86, 37, 9, 0, 2, 0) := rfl
theorem i_19_37 : ins 19 37 = some (.invokevirtual 89, 40, 11, 0, 3, 0) := rfl
theorem i_19_40 : ins 19 40 = some (.ifCond .eq 18, 43, 58, 0, 0, 0) := rfl
theorem i_19_43 : ins 19 43 = some (.iload 4, 45, 4, 0, 0, 0) := rfl
theorem i_19_45 : ins 19 45 = some (.iconst 1, 46, 0, 0, 0, 1) := rfl
theorem i_19_46 : ins 19 46 = some (.aload_n 0, 47, 0, 0, 0, 0) := rfl
theorem i_19_47 : ins 19 47 = some (.getfield 29, 50, 1, 5, 0, 0) := rfl
theorem i_19_50 : ins 19 50 = some (.iload_n 3, 51, 3, 0, 0, 0) := rfl
theorem i_19_51 : ins 19 51 = some (.iaload, 52, 0, 0, 0, 0) := rfl
theorem i_19_52 : ins 19 52 = some (.isub, 53, 0, 0, 0, 0) := rfl
theorem i_19_53 : ins 19 53 = some (.invokestatic 93, 56, 164, 1, 2, 0) := rfl
theorem i_19_56 : ins 19 56 = some (.istore 4, 58, 4, 0, 0, 0) := rfl
theorem i_19_58 : ins 19 58 = some (.aload_n 1, 59, 1, 0, 0, 0) := rfl
theorem i_19_59 : ins 19 59 = some (.iload_n 2, 60, 2, 0, 0, 0) := rfl
theorem i_19_60 : ins 19 60 = some (.invokevirtual 86, 63, 9, 0, 2, 0) := rfl
theorem i_19_63 : ins 19 63 = some (.iconst (-1), 64, 0, 0, 0, (-1)) := rfl
theorem i_19_64 : ins 19 64 = some (.if_icmp .eq 38, 67, 102, 0, 0, 0) := rfl
theorem i_19_67 : ins 19 67 = some (.aload_n 1, 68, 1, 0, 0, 0) := rfl
theorem i_19_68 : ins 19 68 = some (.iload_n 2, 69, 2, 0, 0, 0) := rfl
theorem i_19_69 : ins 19 69 = some (.invokevirtual 86, 72, 9, 0, 2, 0) := rfl
theorem i_19_72 : ins 19 72 = some (.aload_n 1, 73, 1, 0, 0, 0) := rfl
theorem i_19_73 : ins 19 73 = some (.iload_n 3, 74, 3, 0, 0, 0) := rfl
theorem i_19_74 : ins 19 74 = some (.invokevirtual 86, 77, 9, 0, 2, 0) := rfl
theorem i_19_77 : ins 19 77 = some (.if_icmp .ne 25, 80, 102, 0, 0, 0) := rfl
theorem i_19_80 : ins 19 80 = some (.iload 4, 82, 4, 0, 0, 0) := rfl
theorem i_19_82 : ins 19 82 = some (.aload_n 0, 83, 0, 0, 0, 0) := rfl
theorem i_19_83 : ins 19 83 = some (.getfield 29, 86, 1, 5, 0, 0) := rfl
theorem i_19_86 : ins 19 86 = some (.iload_n 2, 87, 2, 0, 0, 0) := rfl
theorem i_19_87 : ins 19 87 = some (.iaload, 88, 0, 0, 0, 0) := rfl
theorem i_19_88 : ins 19 88 = some (.aload_n 0, 89, 0, 0, 0, 0) := rfl
theorem i_19_89 : ins 19 89 = some (.getfield 29, 92, 1, 5, 0, 0) := rfl
theorem i_19_92 : ins 19 92 = some (.iload_n 3, 93, 3, 0, 0, 0) := rfl
theorem i_19_93 : ins 19 93 = some (.iaload, 94, 0, 0, 0, 0) := rfl
theorem i_19_94 : ins 19 94 = some (.isub, 95, 0, 0, 0, 0) := rfl
theorem i_19_95 : ins 19 95 = some (.iconst 1, 96, 0, 0, 0, 1) := rfl
theorem i_19_96 : ins 19 96 = some (.iadd, 97, 0, 0, 0, 0) := rfl
theorem i_19_97 : ins 19 97 = some (.invokestatic 93, 100, 164, 1, 2, 0) := rfl
theorem i_19_100 : ins 19 100 = some (.istore 4, 102, 4, 0, 0, 0) := rfl
theorem i_19_102 : ins 19 102 = some (.aload_n 1, 103, 1, 0, 0, 0) := rfl
theorem i_19_103 : ins 19 103 = some (.getfield 61, 106, 0, 6, 0, 0) := rfl
theorem i_19_106 : ins 19 106 = some (.iload_n 2, 107, 2, 0, 0, 0) := rfl
theorem i_19_107 : ins 19 107 = some (.iaload, 108, 0, 0, 0, 0) := rfl
theorem i_19_108 : ins 19 108 = some (.aload_n 1, 109, 1, 0, 0, 0) := rfl
theorem i_19_109 : ins 19 109 = some (.getfield 61, 112, 0, 6, 0, 0) := rfl
theorem i_19_112 : ins 19 112 = some (.iload_n 3, 113, 3, 0, 0, 0) := rfl
theorem i_19_113 : ins 19 113 = some (.iaload, 114, 0, 0, 0, 0) := rfl
theorem i_19_114 : ins 19 114 = some (.invokestatic 98, 117, 20, 1, 2, 0) := rfl
theorem i_19_117 : ins 19 117 = some (.ifCond .eq 11, 120, 128, 0, 0, 0) := rfl
theorem i_19_120 : ins 19 120 = some (.iload 4, 122, 4, 0, 0, 0) := rfl
theorem i_19_122 : ins 19 122 = some (.iconst 1, 123, 0, 0, 0, 1) := rfl
theorem i_19_123 : ins 19 123 = some (.invokestatic 93, 126, 164, 1, 2, 0) := rfl
theorem i_19_126 : ins 19 126 = some (.istore 4, 128, 4, 0, 0, 0) := rfl
theorem i_19_128 : ins 19 128 = some (.iload 4, 130, 4, 0, 0, 0) := rfl
theorem i_19_130 : ins 19 130 = some (.ldc 85, 132, 85, 0, 0, (-1000000)) := rfl
theorem i_19_132 : ins 19 132 = some (.if_icmp .eq 35, 135, 167, 0, 0, 0) := rfl
theorem i_19_135 : ins 19 135 = some (.aload_n 0, 136, 0, 0, 0, 0) := rfl
theorem i_19_136 : ins 19 136 = some (.getfield 33, 139, 1, 6, 0, 0) := rfl
theorem i_19_139 : ins 19 139 = some (.iload_n 2, 140, 2, 0, 0, 0) := rfl
theorem i_19_140 : ins 19 140 = some (.iload_n 3, 141, 3, 0, 0, 0) := rfl
theorem i_19_141 : ins 19 141 = some (.invokestatic 74, 144, 15, 1, 2, 0) := rfl
theorem i_19_144 : ins 19 144 = some (.iload 4, 146, 4, 0, 0, 0) := rfl
theorem i_19_146 : ins 19 146 = some (.iastore, 147, 0, 0, 0, 0) := rfl
theorem i_19_147 : ins 19 147 = some (.aload_n 0, 148, 0, 0, 0, 0) := rfl
theorem i_19_148 : ins 19 148 = some (.getfield 36, 151, 1, 7, 0, 0) := rfl
theorem i_19_151 : ins 19 151 = some (.iload_n 2, 152, 2, 0, 0, 0) := rfl
theorem i_19_152 : ins 19 152 = some (.iload_n 3, 153, 3, 0, 0, 0) := rfl
theorem i_19_153 : ins 19 153 = some (.invokestatic 74, 156, 15, 1, 2, 0) := rfl
theorem i_19_156 : ins 19 156 = some (.iload_n 2, 157, 2, 0, 0, 0) := rfl
theorem i_19_157 : ins 19 157 = some (.iload_n 3, 158, 3, 0, 0, 0) := rfl
theorem i_19_158 : ins 19 158 = some (.if_icmp .ge 7, 161, 165, 0, 0, 0) := rfl
theorem i_19_161 : ins 19 161 = some (.iconst 0, 162, 0, 0, 0, 0) := rfl
theorem i_19_162 : ins 19 162 = some (.goto 4, 165, 166, 0, 0, 0) := rfl
theorem i_19_165 : ins 19 165 = some (.iconst 1, 166, 0, 0, 0, 1) := rfl
theorem i_19_166 : ins 19 166 = some (.iastore, 167, 0, 0, 0, 0) := rfl
theorem i_19_167 : ins 19 167 = some (.return_, 168, 0, 0, 0, 0) := rfl
theorem S19_0 {Q : Ou → Prop} {M : Mem} {κ : Kp} (hκ : Rd κ) {b n i j : Nat} {O : Op} (hb : isBl b) (hi : i < n) (hj : j < n) (hn : n ≤ 10) (hO : ∀ f, f < 6 → ∀ j, j < n → M (b + 1 + f) j = O f j) {li lj : Int32} (hli : M 115 i = li) (hlj : M 115 j = lj) 
    (k1 : (rdF (O 0 j) (O 2 j) (O 3 j) (O 5 j) (wrF (O 0 i) (O 1 i))) = true → RT 19 (30, [.ref 113, .ref b, .int (nI i), .int (nI j), .int (mx (-1000000) li)], [], M, κ) Q)
    (k2 : ¬ ((rdF (O 0 j) (O 2 j) (O 3 j) (O 5 j) (wrF (O 0 i) (O 1 i))) = true) → RT 19 (30, [.ref 113, .ref b, .int (nI i), .int (nI j), .int (-1000000)], [], M, κ) Q)
    : RT 19 (0, [.ref 113, .ref b, .int (nI i), .int (nI j), UU], [], M, κ) Q := by
  refine w_push i_19_0 rfl ?_
  refine w_store (l1 := [.ref 113, .ref b, .int (nI i), .int (nI j), .int (-1000000)]) i_19_2 rfl (Nat.le_of_ble_eq_true rfl) rfl ?_
  refine w_load i_19_4 rfl rfl ?_
  refine w_load i_19_5 rfl rfl ?_
  refine w_load i_19_6 rfl rfl ?_
  refine w_load i_19_7 rfl rfl ?_
  refine w_callV (i := _) i_19_8 ⟨by decide, by decide, by decide, rfl⟩ hκ (bl_ob hb) (av := [.int (nI i)]) (rest := [.int (nI j), .ref b]) rfl rfl (Nat.le_of_ble_eq_true rfl) (v := some (.int (wrF (O 0 i) (O 1 i)))) (c9 hκ hb (by omega) (hO 0 (by decide) i (by omega)) (hO 1 (by decide) i (by omega))) ?_
  refine w_callV (i := _) i_19_11 ⟨by decide, by decide, by decide, rfl⟩ hκ (bl_ob hb) (av := [.int (nI j), .int (wrF (O 0 i) (O 1 i))]) (rest := []) rfl rfl (Nat.le_of_ble_eq_true rfl) (v := some (.int (bI (rdF (O 0 j) (O 2 j) (O 3 j) (O 5 j) (wrF (O 0 i) (O 1 i)))))) (c11 hκ hb (by omega) (hO 0 (by decide) j (by omega)) (hO 2 (by decide) j (by omega)) (hO 3 (by decide) j (by omega)) (hO 5 (by decide) j (by omega))) ?_
  refine w_if0n ((rdF (O 0 j) (O 2 j) (O 3 j) (O 5 j) (wrF (O 0 i) (O 1 i))) = true) i_19_14 cB_eq ?_ ?_
  · intro h1
    refine w_load i_19_17 rfl rfl ?_
    refine w_load i_19_19 rfl rfl ?_
    refine w_getR 115 i_19_20 hκ (⟨rfl, by decide⟩ : isOb 113 1) rfl rfl ?_
    refine w_load i_19_23 rfl rfl ?_
    refine w_ialdN (e := i) (v := li) i_19_24 hκ (⟨rfl, rfl, by decide⟩ : isAr 115 10) (by omega) (by decide) (hli) ?_
    refine w_mmax i_19_25 rfl (by decide) (Nat.le_of_ble_eq_true rfl) ?_
    refine w_store (l1 := [.ref 113, .ref b, .int (nI i), .int (nI j), .int (mx (-1000000) li)]) i_19_28 rfl (Nat.le_of_ble_eq_true rfl) rfl ?_
    exact (k1 h1)
  · intro h2
    exact (k2 h2)
theorem S19_30 {Q : Ou → Prop} {M : Mem} {κ : Kp} (hκ : Rd κ) {b n i j : Nat} {O : Op} (hb : isBl b) (hi : i < n) (hj : j < n) (hn : n ≤ 10) (hO : ∀ f, f < 6 → ∀ j, j < n → M (b + 1 + f) j = O f j) {li lj : Int32} (hli : M 115 i = li) (hlj : M 115 j = lj) {mo : Int32}
    (k1 : (rdF (O 0 i) (O 2 i) (O 3 i) (O 5 i) (wrF (O 0 j) (O 1 j))) = true → RT 19 (58, [.ref 113, .ref b, .int (nI i), .int (nI j), .int (mx mo (1 - lj))], [], M, κ) Q)
    (k2 : ¬ ((rdF (O 0 i) (O 2 i) (O 3 i) (O 5 i) (wrF (O 0 j) (O 1 j))) = true) → RT 19 (58, [.ref 113, .ref b, .int (nI i), .int (nI j), .int mo], [], M, κ) Q)
    : RT 19 (30, [.ref 113, .ref b, .int (nI i), .int (nI j), .int mo], [], M, κ) Q := by
  refine w_load i_19_30 rfl rfl ?_
  refine w_load i_19_31 rfl rfl ?_
  refine w_load i_19_32 rfl rfl ?_
  refine w_load i_19_33 rfl rfl ?_
  refine w_callV (i := _) i_19_34 ⟨by decide, by decide, by decide, rfl⟩ hκ (bl_ob hb) (av := [.int (nI j)]) (rest := [.int (nI i), .ref b]) rfl rfl (Nat.le_of_ble_eq_true rfl) (v := some (.int (wrF (O 0 j) (O 1 j)))) (c9 hκ hb (by omega) (hO 0 (by decide) j (by omega)) (hO 1 (by decide) j (by omega))) ?_
  refine w_callV (i := _) i_19_37 ⟨by decide, by decide, by decide, rfl⟩ hκ (bl_ob hb) (av := [.int (nI i), .int (wrF (O 0 j) (O 1 j))]) (rest := []) rfl rfl (Nat.le_of_ble_eq_true rfl) (v := some (.int (bI (rdF (O 0 i) (O 2 i) (O 3 i) (O 5 i) (wrF (O 0 j) (O 1 j)))))) (c11 hκ hb (by omega) (hO 0 (by decide) i (by omega)) (hO 2 (by decide) i (by omega)) (hO 3 (by decide) i (by omega)) (hO 5 (by decide) i (by omega))) ?_
  refine w_if0n ((rdF (O 0 i) (O 2 i) (O 3 i) (O 5 i) (wrF (O 0 j) (O 1 j))) = true) i_19_40 cB_eq ?_ ?_
  · intro h1
    refine w_load i_19_43 rfl rfl ?_
    refine w_push i_19_45 rfl ?_
    refine w_load i_19_46 rfl rfl ?_
    refine w_getR 115 i_19_47 hκ (⟨rfl, by decide⟩ : isOb 113 1) rfl rfl ?_
    refine w_load i_19_50 rfl rfl ?_
    refine w_ialdN (e := j) (v := lj) i_19_51 hκ (⟨rfl, rfl, by decide⟩ : isAr 115 10) (by omega) (by decide) (hlj) ?_
    refine w_bin (w := (1 - lj)) i_19_52 rfl rfl ?_
    refine w_mmax i_19_53 rfl (by decide) (Nat.le_of_ble_eq_true rfl) ?_
    refine w_store (l1 := [.ref 113, .ref b, .int (nI i), .int (nI j), .int (mx mo (1 - lj))]) i_19_56 rfl (Nat.le_of_ble_eq_true rfl) rfl ?_
    exact (k1 h1)
  · intro h2
    exact (k2 h2)
theorem S19_58 {Q : Ou → Prop} {M : Mem} {κ : Kp} (hκ : Rd κ) {b n i j : Nat} {O : Op} (hb : isBl b) (hi : i < n) (hj : j < n) (hn : n ≤ 10) (hO : ∀ f, f < 6 → ∀ j, j < n → M (b + 1 + f) j = O f j) {li lj : Int32} (hli : M 115 i = li) (hlj : M 115 j = lj) {mo : Int32}
    (k1 : (wrF (O 0 i) (O 1 i)) = (-1) → RT 19 (102, [.ref 113, .ref b, .int (nI i), .int (nI j), .int mo], [], M, κ) Q)
    (k2 : ¬ ((wrF (O 0 i) (O 1 i)) = (-1)) → (wrF (O 0 i) (O 1 i)) = (wrF (O 0 j) (O 1 j)) → RT 19 (102, [.ref 113, .ref b, .int (nI i), .int (nI j), .int (mx mo ((li - lj) + 1))], [], M, κ) Q)
    (k3 : ¬ ((wrF (O 0 i) (O 1 i)) = (-1)) → ¬ ((wrF (O 0 i) (O 1 i)) = (wrF (O 0 j) (O 1 j))) → RT 19 (102, [.ref 113, .ref b, .int (nI i), .int (nI j), .int mo], [], M, κ) Q)
    : RT 19 (58, [.ref 113, .ref b, .int (nI i), .int (nI j), .int mo], [], M, κ) Q := by
  refine w_load i_19_58 rfl rfl ?_
  refine w_load i_19_59 rfl rfl ?_
  refine w_callV (i := _) i_19_60 ⟨by decide, by decide, by decide, rfl⟩ hκ (bl_ob hb) (av := [.int (nI i)]) (rest := []) rfl rfl (Nat.le_of_ble_eq_true rfl) (v := some (.int (wrF (O 0 i) (O 1 i)))) (c9 hκ hb (by omega) (hO 0 (by decide) i (by omega)) (hO 1 (by decide) i (by omega))) ?_
  refine w_push i_19_63 rfl ?_
  refine w_if2 ((wrF (O 0 i) (O 1 i)) = (-1)) i_19_64 cI_eq ?_ ?_
  · intro h1
    exact (k1 h1)
  · intro h2
    refine w_load i_19_67 rfl rfl ?_
    refine w_load i_19_68 rfl rfl ?_
    refine w_callV (i := _) i_19_69 ⟨by decide, by decide, by decide, rfl⟩ hκ (bl_ob hb) (av := [.int (nI i)]) (rest := []) rfl rfl (Nat.le_of_ble_eq_true rfl) (v := some (.int (wrF (O 0 i) (O 1 i)))) (c9 hκ hb (by omega) (hO 0 (by decide) i (by omega)) (hO 1 (by decide) i (by omega))) ?_
    refine w_load i_19_72 rfl rfl ?_
    refine w_load i_19_73 rfl rfl ?_
    refine w_callV (i := _) i_19_74 ⟨by decide, by decide, by decide, rfl⟩ hκ (bl_ob hb) (av := [.int (nI j)]) (rest := [.int (wrF (O 0 i) (O 1 i))]) rfl rfl (Nat.le_of_ble_eq_true rfl) (v := some (.int (wrF (O 0 j) (O 1 j)))) (c9 hκ hb (by omega) (hO 0 (by decide) j (by omega)) (hO 1 (by decide) j (by omega))) ?_
    refine w_if2n ((wrF (O 0 i) (O 1 i)) = (wrF (O 0 j) (O 1 j))) i_19_77 cI_ne ?_ ?_
    · intro h3
      refine w_load i_19_80 rfl rfl ?_
      refine w_load i_19_82 rfl rfl ?_
      refine w_getR 115 i_19_83 hκ (⟨rfl, by decide⟩ : isOb 113 1) rfl rfl ?_
      refine w_load i_19_86 rfl rfl ?_
      refine w_ialdN (e := i) (v := li) i_19_87 hκ (⟨rfl, rfl, by decide⟩ : isAr 115 10) (by omega) (by decide) (hli) ?_
      refine w_load i_19_88 rfl rfl ?_
      refine w_getR 115 i_19_89 hκ (⟨rfl, by decide⟩ : isOb 113 1) rfl rfl ?_
      refine w_load i_19_92 rfl rfl ?_
      refine w_ialdN (e := j) (v := lj) i_19_93 hκ (⟨rfl, rfl, by decide⟩ : isAr 115 10) (by omega) (by decide) (hlj) ?_
      refine w_bin (w := (li - lj)) i_19_94 rfl rfl ?_
      refine w_push i_19_95 rfl ?_
      refine w_bin (w := ((li - lj) + 1)) i_19_96 rfl rfl ?_
      refine w_mmax i_19_97 rfl (by decide) (Nat.le_of_ble_eq_true rfl) ?_
      refine w_store (l1 := [.ref 113, .ref b, .int (nI i), .int (nI j), .int (mx mo ((li - lj) + 1))]) i_19_100 rfl (Nat.le_of_ble_eq_true rfl) rfl ?_
      exact (k2 h2 h3)
    · intro h4
      exact (k3 h2 h4)
theorem S19_102 {Q : Ou → Prop} {M : Mem} {κ : Kp} (hκ : Rd κ) {b n i j : Nat} {O : Op} (hb : isBl b) (hi : i < n) (hj : j < n) (hn : n ≤ 10) (hO : ∀ f, f < 6 → ∀ j, j < n → M (b + 1 + f) j = O f j) {li lj : Int32} (hli : M 115 i = li) (hlj : M 115 j = lj) {mo : Int32}
    (k1 : (ordF (O 0 i) (O 0 j)) = true → RT 19 (128, [.ref 113, UU, .int (nI i), .int (nI j), .int (mx mo 1)], [], M, κ) Q)
    (k2 : ¬ ((ordF (O 0 i) (O 0 j)) = true) → RT 19 (128, [.ref 113, UU, .int (nI i), .int (nI j), .int mo], [], M, κ) Q)
    : RT 19 (102, [.ref 113, .ref b, .int (nI i), .int (nI j), .int mo], [], M, κ) Q := by
  refine w_load i_19_102 rfl rfl ?_
  refine w_getR (b + 1) i_19_103 hκ (bl_ob hb) rfl rfl ?_
  refine w_load i_19_106 rfl rfl ?_
  refine w_ialdN (e := i) (v := (O 0 i)) i_19_107 hκ (bl_ar hb 1 (by decide)) (by omega) (by decide) (hO 0 (by decide) i (by omega)) ?_
  refine w_load i_19_108 rfl rfl ?_
  refine w_getR (b + 1) i_19_109 hκ (bl_ob hb) rfl rfl ?_
  refine w_load i_19_112 rfl rfl ?_
  refine w_ialdN (e := j) (v := (O 0 j)) i_19_113 hκ (bl_ar hb 1 (by decide)) (by omega) (by decide) (hO 0 (by decide) j (by omega)) ?_
  refine w_callS i_19_114 ⟨by decide, by decide, by decide, rfl, rfl⟩ (av := [.int (O 0 i), .int (O 0 j)]) (rest := []) rfl rfl (Nat.le_of_ble_eq_true rfl) (v := some (.int (bI (ordF (O 0 i) (O 0 j))))) (c20 hκ) ?_
  refine w_if0n ((ordF (O 0 i) (O 0 j)) = true) i_19_117 cB_eq ?_ ?_
  · intro h1
    refine w_load i_19_120 rfl rfl ?_
    refine w_push i_19_122 rfl ?_
    refine w_mmax i_19_123 rfl (by decide) (Nat.le_of_ble_eq_true rfl) ?_
    refine w_store (l1 := [.ref 113, .ref b, .int (nI i), .int (nI j), .int (mx mo 1)]) i_19_126 rfl (Nat.le_of_ble_eq_true rfl) rfl ?_
    exact w_weak (lle_s (lle_u (lle_s (lle_s (lle_s lle_n))))) (k1 h1)
  · intro h2
    exact w_weak (lle_s (lle_u (lle_s (lle_s (lle_s lle_n))))) (k2 h2)
theorem S19_128 {Q : Ou → Prop} {M : Mem} {κ : Kp} (hκ : Rd κ) {b n i j : Nat} {O : Op} (hb : isBl b) (hi : i < n) (hj : j < n) (hn : n ≤ 10) (hO : ∀ f, f < 6 → ∀ j, j < n → M (b + 1 + f) j = O f j) {li lj : Int32} (hli : M 115 i = li) (hlj : M 115 j = lj) {mo : Int32}
    (k1 : Q (.inl none, (if mo = (-1000000) then M else (stM (stM M 116 (i * 10 + j) mo) 117 (i * 10 + j) (nI (if i < j then 0 else 1)))), κ))
    : RT 19 (128, [.ref 113, UU, .int (nI i), .int (nI j), .int mo], [], M, κ) Q := by
  refine w_load i_19_128 rfl rfl ?_
  refine w_push i_19_130 rfl ?_
  have K1 : RT 19 (167, [.ref 113, UU, .int (nI i), .int (nI j), .int mo], [], (if mo = (-1000000) then M else (stM (stM M 116 (i * 10 + j) mo) 117 (i * 10 + j) (nI (if i < j then 0 else 1)))), κ) Q := by
    exact w_vret i_19_167 rfl (k1)
  refine w_if2 (mo = (-1000000)) i_19_132 cI_eq ?_ ?_
  · intro h2
    exact (by first | exact (K1) | (have K9 := K1; simp only [↓if_pos h2] at K9 ⊢; exact (K9)))
  · intro h3
    refine w_load i_19_135 rfl rfl ?_
    refine w_getR 116 i_19_136 hκ (⟨rfl, by decide⟩ : isOb 113 1) rfl rfl ?_
    refine w_load i_19_139 rfl rfl ?_
    refine w_load i_19_140 rfl rfl ?_
    refine w_callS i_19_141 ⟨by decide, by decide, by decide, rfl, rfl⟩ (av := [.int (nI i), .int (nI j)]) (rest := [.ref 116]) rfl rfl (Nat.le_of_ble_eq_true rfl) (v := some (.int (nI (i * 10 + j)))) (c15N hκ) ?_
    refine w_load i_19_144 rfl rfl ?_
    refine w_iastN (e := (i * 10 + j)) i_19_146 hκ (⟨rfl, rfl, by decide⟩ : isAr 116 200) (by omega) (by decide) ?_
    refine w_load i_19_147 rfl rfl ?_
    refine w_getR 117 i_19_148 hκ (⟨rfl, by decide⟩ : isOb 113 1) rfl rfl ?_
    refine w_load i_19_151 rfl rfl ?_
    refine w_load i_19_152 rfl rfl ?_
    refine w_callS i_19_153 ⟨by decide, by decide, by decide, rfl, rfl⟩ (av := [.int (nI i), .int (nI j)]) (rest := [.ref 117]) rfl rfl (Nat.le_of_ble_eq_true rfl) (v := some (.int (nI (i * 10 + j)))) (c15N hκ) ?_
    refine w_load i_19_156 rfl rfl ?_
    refine w_load i_19_157 rfl rfl ?_
    have K4 : RT 19 (166, [.ref 113, UU, .int (nI i), .int (nI j), .int mo], [.int (nI (if i < j then 0 else 1)), .int (nI (i * 10 + j)), .ref 117], (stM M 116 (i * 10 + j) mo), κ) Q := by
      refine w_iastN (e := (i * 10 + j)) i_19_166 hκ (⟨rfl, rfl, by decide⟩ : isAr 117 200) (by omega) (by decide) ?_
      exact (by first | exact (K1) | (have K9 := K1; simp only [↓if_neg h3] at K9 ⊢; exact (K9)))
    refine w_if2n (i < j) i_19_158 (cN_ge (a := i) (b := j) (by omega) (by omega)) ?_ ?_
    · intro h5
      refine w_push i_19_161 rfl ?_
      refine w_goto i_19_162 ?_
      exact (by first | exact (K4) | (have K9 := K4; simp only [↓if_pos h5] at K9 ⊢; exact (K9)))
    · intro h6
      refine w_push i_19_165 rfl ?_
      exact (by first | exact (K4) | (have K9 := K4; simp only [↓if_neg h6] at K9 ⊢; exact (K9)))
theorem i_22_0 : ins 22 0 = some (.aload_n 1, 1, 1, 0, 0, 0) := rfl
theorem i_22_1 : ins 22 1 = some (.getfield 61, 4, 0, 6, 0, 0) := rfl
theorem i_22_4 : ins 22 4 = some (.iload_n 2, 5, 2, 0, 0, 0) := rfl
theorem i_22_5 : ins 22 5 = some (.iaload, 6, 0, 0, 0, 0) := rfl
theorem i_22_6 : ins 22 6 = some (.bipush 8, 8, 0, 0, 0, 8) := rfl
theorem i_22_8 : ins 22 8 = some (.if_icmp .eq 14, 11, 22, 0, 0, 0) := rfl
theorem i_22_11 : ins 22 11 = some (.aload_n 1, 12, 1, 0, 0, 0) := rfl
theorem i_22_12 : ins 22 12 = some (.getfield 61, 15, 0, 6, 0, 0) := rfl
theorem i_22_15 : ins 22 15 = some (.iload_n 3, 16, 3, 0, 0, 0) := rfl
theorem i_22_16 : ins 22 16 = some (.iaload, 17, 0, 0, 0, 0) := rfl
theorem i_22_17 : ins 22 17 = some (.bipush 8, 19, 0, 0, 0, 8) := rfl
theorem i_22_19 : ins 22 19 = some (.if_icmp .ne 7, 22, 26, 0, 0, 0) := rfl
theorem i_22_22 : ins 22 22 = some (.iconst 1, 23, 0, 0, 0, 1) := rfl
theorem i_22_23 : ins 22 23 = some (.goto 4, 26, 27, 0, 0, 0) := rfl
theorem i_22_26 : ins 22 26 = some (.iconst 0, 27, 0, 0, 0, 0) := rfl
theorem i_22_27 : ins 22 27 = some (.istore 4, 29, 4, 0, 0, 0) := rfl
theorem i_22_29 : ins 22 29 = some (.iload 4, 31, 4, 0, 0, 0) := rfl
theorem i_22_31 : ins 22 31 = some (.ifCond .eq 68, 34, 99, 0, 0, 0) := rfl
theorem i_22_34 : ins 22 34 = some (.aload_n 1, 35, 1, 0, 0, 0) := rfl
theorem i_22_35 : ins 22 35 = some (.iload_n 2, 36, 2, 0, 0, 0) := rfl
theorem i_22_36 : ins 22 36 = some (.invokevirtual 104, 39, 12, 0, 2, 0) := rfl
theorem i_22_39 : ins 22 39 = some (.ifCond .eq 60, 42, 99, 0, 0, 0) := rfl
theorem i_22_42 : ins 22 42 = some (.aload_n 1, 43, 1, 0, 0, 0) := rfl
theorem i_22_43 : ins 22 43 = some (.iload_n 3, 44, 3, 0, 0, 0) := rfl
theorem i_22_44 : ins 22 44 = some (.invokevirtual 104, 47, 12, 0, 2, 0) := rfl
theorem i_22_47 : ins 22 47 = some (.ifCond .eq 52, 50, 99, 0, 0, 0) := rfl
theorem i_22_50 : ins 22 50 = some (.aload_n 0, 51, 0, 0, 0, 0) := rfl
theorem i_22_51 : ins 22 51 = some (.getfield 33, 54, 1, 6, 0, 0) := rfl
theorem i_22_54 : ins 22 54 = some (.bipush 100, 56, 0, 0, 0, 100) := rfl
theorem i_22_56 : ins 22 56 = some (.iload_n 2, 57, 2, 0, 0, 0) := rfl
theorem i_22_57 : ins 22 57 = some (.iload_n 3, 58, 3, 0, 0, 0) := rfl
theorem i_22_58 : ins 22 58 = some (.invokestatic 74, 61, 15, 1, 2, 0) := rfl
theorem i_22_61 : ins 22 61 = some (.iadd, 62, 0, 0, 0, 0) := rfl
theorem i_22_62 : ins 22 62 = some (.aload_n 1, 63, 1, 0, 0, 0) := rfl
theorem i_22_63 : ins 22 63 = some (.getfield 61, 66, 0, 6, 0, 0) := rfl
theorem i_22_66 : ins 22 66 = some (.iload_n 2, 67, 2, 0, 0, 0) := rfl
theorem i_22_67 : ins 22 67 = some (.iaload, 68, 0, 0, 0, 0) := rfl
theorem i_22_68 : ins 22 68 = some (.bipush 8, 70, 0, 0, 0, 8) := rfl
theorem i_22_70 : ins 22 70 = some (.if_icmp .ne 7, 73, 77, 0, 0, 0) := rfl
theorem i_22_73 : ins 22 73 = some (.iconst 1, 74, 0, 0, 0, 1) := rfl
theorem i_22_74 : ins 22 74 = some (.goto 4, 77, 78, 0, 0, 0) := rfl
theorem i_22_77 : ins 22 77 = some (.iconst 0, 78, 0, 0, 0, 0) := rfl
theorem i_22_78 : ins 22 78 = some (.iastore, 79, 0, 0, 0, 0) := rfl
theorem i_22_79 : ins 22 79 = some (.aload_n 0, 80, 0, 0, 0, 0) := rfl
theorem i_22_80 : ins 22 80 = some (.getfield 36, 83, 1, 7, 0, 0) := rfl
theorem i_22_83 : ins 22 83 = some (.bipush 100, 85, 0, 0, 0, 100) := rfl
theorem i_22_85 : ins 22 85 = some (.iload_n 2, 86, 2, 0, 0, 0) := rfl
theorem i_22_86 : ins 22 86 = some (.iload_n 3, 87, 3, 0, 0, 0) := rfl
theorem i_22_87 : ins 22 87 = some (.invokestatic 74, 90, 15, 1, 2, 0) := rfl
theorem i_22_90 : ins 22 90 = some (.iadd, 91, 0, 0, 0, 0) := rfl
theorem i_22_91 : ins 22 91 = some (.aload_n 0, 92, 0, 0, 0, 0) := rfl
theorem i_22_92 : ins 22 92 = some (.aload_n 1, 93, 1, 0, 0, 0) := rfl
theorem i_22_93 : ins 22 93 = some (.iload_n 2, 94, 2, 0, 0, 0) := rfl
theorem i_22_94 : ins 22 94 = some (.iload_n 3, 95, 3, 0, 0, 0) := rfl
theorem i_22_95 : ins 22 95 = some (.invokevirtual 107, 98, 23, 0, 4, 0) := rfl
theorem i_22_98 : ins 22 98 = some (.iastore, 99, 0, 0, 0, 0) := rfl
theorem i_22_99 : ins 22 99 = some (.return_, 100, 0, 0, 0, 0) := rfl
theorem S22_0 {Q : Ou → Prop} {M : Mem} {κ : Kp} (hκ : Rd κ) {b n i j : Nat} {O : Op} (hb : isBl b) (hi : i < n) (hj : j < n) (hn : n ≤ 10) (hO : ∀ f, f < 6 → ∀ j, j < n → M (b + 1 + f) j = O f j)  {r_95 : Int32}
    (o1 : (if (O 0 i) = 8 then true else (if (O 0 j) = 8 then true else false)) = true → (memF (O 0 i)) = true → (memF (O 0 j)) = true → Run 23 (0, entL 23 [.ref 113, .ref b, .int (nI i), .int (nI j)], [], (stM M 116 (100 + (i * 10 + j)) (bI (if (O 0 i) = 8 then true else false))), κ) (.inl (some (.int r_95)), (stM M 116 (100 + (i * 10 + j)) (bI (if (O 0 i) = 8 then true else false))), κ))
    (k1 : Q (.inl none, (if (if (O 0 i) = 8 then true else (if (O 0 j) = 8 then true else false)) = true then (if (memF (O 0 i)) = true then (if (memF (O 0 j)) = true then (stM (stM M 116 (100 + (i * 10 + j)) (bI (if (O 0 i) = 8 then true else false))) 117 (100 + (i * 10 + j)) r_95) else M) else M) else M), κ))
    : RT 22 (0, [.ref 113, .ref b, .int (nI i), .int (nI j), UU], [], M, κ) Q := by
  refine w_load i_22_0 rfl rfl ?_
  refine w_getR (b + 1) i_22_1 hκ (bl_ob hb) rfl rfl ?_
  refine w_load i_22_4 rfl rfl ?_
  refine w_ialdN (e := i) (v := (O 0 i)) i_22_5 hκ (bl_ar hb 1 (by decide)) (by omega) (by decide) (hO 0 (by decide) i (by omega)) ?_
  refine w_push i_22_6 rfl ?_
  have K1 : RT 22 (27, [.ref 113, .ref b, .int (nI i), .int (nI j), UU], [.int (bI (if (O 0 i) = 8 then true else (if (O 0 j) = 8 then true else false)))], M, κ) Q := by
    refine w_store (l1 := [.ref 113, .ref b, .int (nI i), .int (nI j), .int (bI (if (O 0 i) = 8 then true else (if (O 0 j) = 8 then true else false)))]) i_22_27 rfl (Nat.le_of_ble_eq_true rfl) rfl ?_
    refine w_load i_22_29 rfl rfl ?_
    have K2 : RT 22 (99, [.ref 113, .ref b, .int (nI i), .int (nI j), .int (bI (if (O 0 i) = 8 then true else (if (O 0 j) = 8 then true else false)))], [], (if (if (O 0 i) = 8 then true else (if (O 0 j) = 8 then true else false)) = true then (if (memF (O 0 i)) = true then (if (memF (O 0 j)) = true then (stM (stM M 116 (100 + (i * 10 + j)) (bI (if (O 0 i) = 8 then true else false))) 117 (100 + (i * 10 + j)) r_95) else M) else M) else M), κ) Q := by
      exact w_vret i_22_99 rfl (k1)
    refine w_if0n ((if (O 0 i) = 8 then true else (if (O 0 j) = 8 then true else false)) = true) i_22_31 cB_eq ?_ ?_
    · intro h3
      refine w_load i_22_34 rfl rfl ?_
      refine w_load i_22_35 rfl rfl ?_
      refine w_callV (i := _) i_22_36 ⟨by decide, by decide, by decide, rfl⟩ hκ (bl_ob hb) (av := [.int (nI i)]) (rest := []) rfl rfl (Nat.le_of_ble_eq_true rfl) (v := some (.int (bI (memF (O 0 i))))) (c12 hκ hb (by omega) (hO 0 (by decide) i (by omega))) ?_
      refine w_if0n ((memF (O 0 i)) = true) i_22_39 cB_eq ?_ ?_
      · intro h4
        refine w_load i_22_42 rfl rfl ?_
        refine w_load i_22_43 rfl rfl ?_
        refine w_callV (i := _) i_22_44 ⟨by decide, by decide, by decide, rfl⟩ hκ (bl_ob hb) (av := [.int (nI j)]) (rest := []) rfl rfl (Nat.le_of_ble_eq_true rfl) (v := some (.int (bI (memF (O 0 j))))) (c12 hκ hb (by omega) (hO 0 (by decide) j (by omega))) ?_
        refine w_if0n ((memF (O 0 j)) = true) i_22_47 cB_eq ?_ ?_
        · intro h5
          refine w_load i_22_50 rfl rfl ?_
          refine w_getR 116 i_22_51 hκ (⟨rfl, by decide⟩ : isOb 113 1) rfl rfl ?_
          refine w_push i_22_54 rfl ?_
          refine w_load i_22_56 rfl rfl ?_
          refine w_load i_22_57 rfl rfl ?_
          refine w_callS i_22_58 ⟨by decide, by decide, by decide, rfl, rfl⟩ (av := [.int (nI i), .int (nI j)]) (rest := [.int 100, .ref 116]) rfl rfl (Nat.le_of_ble_eq_true rfl) (v := some (.int (nI (i * 10 + j)))) (c15N hκ) ?_
          refine w_bin (w := (nI (100 + (i * 10 + j)))) i_22_61 rfl (nI_add 100 (i * 10 + j)) ?_
          refine w_load i_22_62 rfl rfl ?_
          refine w_getR (b + 1) i_22_63 hκ (bl_ob hb) rfl rfl ?_
          refine w_load i_22_66 rfl rfl ?_
          refine w_ialdN (e := i) (v := (O 0 i)) i_22_67 hκ (bl_ar hb 1 (by decide)) (by omega) (by decide) (hO 0 (by decide) i (by omega)) ?_
          refine w_push i_22_68 rfl ?_
          have K6 : RT 22 (78, [.ref 113, .ref b, .int (nI i), .int (nI j), .int (bI (if (O 0 i) = 8 then true else (if (O 0 j) = 8 then true else false)))], [.int (bI (if (O 0 i) = 8 then true else false)), .int (nI (100 + (i * 10 + j))), .ref 116], M, κ) Q := by
            refine w_iastN (e := (100 + (i * 10 + j))) i_22_78 hκ (⟨rfl, rfl, by decide⟩ : isAr 116 200) (by omega) (by decide) ?_
            refine w_load i_22_79 rfl rfl ?_
            refine w_getR 117 i_22_80 hκ (⟨rfl, by decide⟩ : isOb 113 1) rfl rfl ?_
            refine w_push i_22_83 rfl ?_
            refine w_load i_22_85 rfl rfl ?_
            refine w_load i_22_86 rfl rfl ?_
            refine w_callS i_22_87 ⟨by decide, by decide, by decide, rfl, rfl⟩ (av := [.int (nI i), .int (nI j)]) (rest := [.int 100, .ref 117]) rfl rfl (Nat.le_of_ble_eq_true rfl) (v := some (.int (nI (i * 10 + j)))) (c15N hκ) ?_
            refine w_bin (w := (nI (100 + (i * 10 + j)))) i_22_90 rfl (nI_add 100 (i * 10 + j)) ?_
            refine w_load i_22_91 rfl rfl ?_
            refine w_load i_22_92 rfl rfl ?_
            refine w_load i_22_93 rfl rfl ?_
            refine w_load i_22_94 rfl rfl ?_
            refine w_callV (i := _) i_22_95 ⟨by decide, by decide, by decide, rfl⟩ hκ (⟨rfl, by decide⟩ : isOb 113 1) (av := [.ref b, .int (nI i), .int (nI j)]) (rest := [.int (nI (100 + (i * 10 + j))), .ref 117]) rfl rfl (Nat.le_of_ble_eq_true rfl) (v := some (.int r_95)) (o1 h3 h4 h5) ?_
            refine w_iastN (e := (100 + (i * 10 + j))) i_22_98 hκ (⟨rfl, rfl, by decide⟩ : isAr 117 200) (by omega) (by decide) ?_
            exact (by first | exact (K2) | (have K9 := K2; simp only [↓if_pos h3, ↓if_pos h4, ↓if_pos h5] at K9 ⊢; exact (K9)))
          refine w_if2n ((O 0 i) = 8) i_22_70 cI_ne ?_ ?_
          · intro h7
            refine w_push i_22_73 rfl ?_
            refine w_goto i_22_74 ?_
            exact (by first | exact (K6) | (have K9 := K6; simp only [↓if_pos h7] at K9 ⊢; exact (K9)))
          · intro h8
            refine w_push i_22_77 rfl ?_
            exact (by first | exact (K6) | (have K9 := K6; simp only [↓if_neg h8] at K9 ⊢; exact (K9)))
        · intro h9
          exact (by first | exact (K2) | (have K9 := K2; simp only [↓if_pos h3, ↓if_pos h4, ↓if_neg h9] at K9 ⊢; exact (K9)))
      · intro h10
        exact (by first | exact (K2) | (have K9 := K2; simp only [↓if_pos h3, ↓if_neg h10] at K9 ⊢; exact (K9)))
    · intro h11
      exact (by first | exact (K2) | (have K9 := K2; simp only [↓if_neg h11] at K9 ⊢; exact (K9)))
  refine w_if2 ((O 0 i) = 8) i_22_8 cI_eq ?_ ?_
  · intro h12
    refine w_push i_22_22 rfl ?_
    refine w_goto i_22_23 ?_
    exact (by first | exact (K1) | (have K9 := K1; simp only [↓if_pos h12] at K9 ⊢; exact (K9)))
  · intro h13
    refine w_load i_22_11 rfl rfl ?_
    refine w_getR (b + 1) i_22_12 hκ (bl_ob hb) rfl rfl ?_
    refine w_load i_22_15 rfl rfl ?_
    refine w_ialdN (e := j) (v := (O 0 j)) i_22_16 hκ (bl_ar hb 1 (by decide)) (by omega) (by decide) (hO 0 (by decide) j (by omega)) ?_
    refine w_push i_22_17 rfl ?_
    refine w_if2n ((O 0 j) = 8) i_22_19 cI_ne ?_ ?_
    · intro h14
      refine w_push i_22_22 rfl ?_
      refine w_goto i_22_23 ?_
      exact (by first | exact (K1) | (have K9 := K1; simp only [↓if_neg h13, ↓if_pos h14] at K9 ⊢; exact (K9)))
    · intro h15
      refine w_push i_22_26 rfl ?_
      exact (by first | exact (K1) | (have K9 := K1; simp only [↓if_neg h13, ↓if_neg h15] at K9 ⊢; exact (K9)))
theorem f19 (hκ : Rd κ) {b n i j : Nat} {O : Op} {L : Nat → Int32} (hb : isBl b) (hi : i < n) (hj : j < n) (hn : n ≤ 10) (hO : ∀ f, f < 6 → ∀ j, j < n → M (b + 1 + f) j = O f j) (hL : Lok L n) (hl : ∀ k, k < n → M 115 k = L k) (K : Q (.inl none, (match usO L O i j with | none => M | some w => stM (stM M 116 (i * 10 + j) w) 117 (i * 10 + j) (nI (if i < j then 0 else 1))), κ)) : RT 19 (0, entL 19 [.ref 113, .ref b, .int (nI i), .int (nI j)], [], M, κ) Q := by
  have A : ∀ mo, mo = enc (-1000000) (usO L O i j) → RT 19 (128, [.ref 113, UU, .int (nI i), .int (nI j), .int mo], [], M, κ) Q := by
    intro mo hmo
    refine S19_128 hκ hb hi hj hn hO (hl i hi) (hl j hj) ?_
    cases h : usO L O i j with
    | none =>
      rw [h] at hmo
      rw [if_pos (show mo = -1000000 from hmo)]
      rw [h] at K
      exact K
    | some w =>
      rw [h] at hmo
      have hr := us_rng hL hi hj h
      have hne : ¬ mo = -1000000 := fun e => by
        rw [hmo] at e
        have e2 : w = -1000000 := e
        rw [e2] at hr
        exact absurd hr (by decide)
      rw [if_neg hne, hmo]
      rw [h] at K
      exact K
  rw [us_enc (by decide) hL hi hj] at A
  have B3 : ∀ mo, mo = (if ¬ wr O i = -1 ∧ wr O i = wr O j then mx (if rd O i (wr O j) = true then mx (if rd O j (wr O i) = true then mx (-1000000) (L i) else (-1000000)) (1 - L j) else (if rd O j (wr O i) = true then mx (-1000000) (L i) else (-1000000))) (L i - L j + 1) else (if rd O i (wr O j) = true then mx (if rd O j (wr O i) = true then mx (-1000000) (L i) else (-1000000)) (1 - L j) else (if rd O j (wr O i) = true then mx (-1000000) (L i) else (-1000000)))) → RT 19 (102, [.ref 113, .ref b, .int (nI i), .int (nI j), .int mo], [], M, κ) Q := by
    intro mo hmo
    rw [← hmo] at A
    refine S19_102 hκ hb hi hj hn hO (hl i hi) (hl j hj) (fun h => A _ ?_) (fun h => A _ ?_)
    · rw [if_pos h]
    · rw [if_neg h]
  have B2 : ∀ mo, mo = (if rd O i (wr O j) = true then mx (if rd O j (wr O i) = true then mx (-1000000) (L i) else (-1000000)) (1 - L j) else (if rd O j (wr O i) = true then mx (-1000000) (L i) else (-1000000))) → RT 19 (58, [.ref 113, .ref b, .int (nI i), .int (nI j), .int mo], [], M, κ) Q := by
    intro mo hmo
    rw [← hmo] at B3
    refine S19_58 hκ hb hi hj hn hO (hl i hi) (hl j hj) (fun h => B3 _ ?_) (fun h h' => B3 _ ?_) (fun h h' => B3 _ ?_)
    · rw [if_neg (fun z => z.1 h)]
    · rw [if_pos ⟨h, h'⟩]
    · rw [if_neg (fun z => h' z.2)]
  have B1 : ∀ mo, mo = (if rd O j (wr O i) = true then mx (-1000000) (L i) else (-1000000)) → RT 19 (30, [.ref 113, .ref b, .int (nI i), .int (nI j), .int mo], [], M, κ) Q := by
    intro mo hmo
    rw [← hmo] at B2
    refine S19_30 hκ hb hi hj hn hO (hl i hi) (hl j hj) (fun h => B2 _ ?_) (fun h => B2 _ ?_)
    · exact (if_pos (show rd O i (wr O j) = true from h)).symm
    · exact (if_neg (show ¬ rd O i (wr O j) = true from h)).symm
  refine S19_0 hκ hb hi hj hn hO (hl i hi) (hl j hj) (fun h => B1 _ ?_) (fun h => B1 _ ?_)
  · exact (if_pos (show rd O j (wr O i) = true from h)).symm
  · exact (if_neg (show ¬ rd O j (wr O i) = true from h)).symm
/-- do two accesses ask for an edge -/
def acc (O : Op) (i j : Nat) : Bool := decide ((O 0 i = 8 ∨ O 0 j = 8) ∧ memF (O 0 i) = true ∧ memF (O 0 j) = true)
theorem f22 (hκ : Rd κ) {b n i j : Nat} {O : Op} {lp : Bool} (hb : isBl b) (hi : i < n) (hj : j < n) (hn : n ≤ 10) (hO : ∀ f, f < 6 → ∀ j, j < n → M (b + 1 + f) j = O f j) (hL : M 119 i = loo O (O 2 i) n) (hfi : M 120 i = sw O (O 2 i) i n) (hfj : M 120 j = sw O (O 2 j) j n) (hmi : M 121 i = amo O (O 2 i) n) (hlp : M 113 1 = bI lp) : Run 22 (0, entL 22 [.ref 113, .ref b, .int (nI i), .int (nI j)], [], M, κ) (.inl none, (if acc O i j = true then stM (stM M 116 (100 + (i * 10 + j)) (if O 0 i = 8 then 1 else 0)) 117 (100 + (i * 10 + j)) (mtF O n lp i j) else M), κ) := by
  have hr := bl_rng hb
  refine RT_run (S22_0 (r_95 := mtF O n lp i j) hκ hb hi hj hn hO (fun _ _ _ => ?_) ?_)
  · exact c23 hκ hb hi hj hn (fun f hf k hk => (stM_o (by omega)).trans (hO f hf k hk)) ((stM_o (by decide)).trans hL) ((stM_o (by decide)).trans hfi) ((stM_o (by decide)).trans hfj) ((stM_o (by decide)).trans hmi) ((stM_o (by decide)).trans hlp)
  · have e : bI (if O 0 i = 8 then true else false) = (if O 0 i = 8 then 1 else 0) := by
      split <;> rfl
    rw [e]
    by_cases c : acc O i j = true
    · have c' := of_decide_eq_true c
      rw [if_pos c, if_pos (by rcases c'.1 with q | q <;> simp [q]), if_pos c'.2.1, if_pos c'.2.2]
    · rw [if_neg c]
      by_cases q1 : (if O 0 i = 8 then true else if O 0 j = 8 then true else false) = true
      · rw [if_pos q1]
        by_cases q2 : memF (O 0 i) = true
        · rw [if_pos q2]
          by_cases q3 : memF (O 0 j) = true
          · exfalso
            refine c (decide_eq_true ⟨?_, q2, q3⟩)
            by_cases q4 : O 0 i = 8
            · exact .inl q4
            · rw [if_neg q4] at q1
              by_cases q5 : O 0 j = 8
              · exact .inr q5
              · rw [if_neg q5] at q1
                cases q1
          · rw [if_neg q3]
        · rw [if_neg q2]
      · rw [if_neg q1]
end P_24_usual
