/-! SOUNDNESS, 1: the pictures -/
def mv (a : Nat → Nat) : Value → Value
  | .ref k => .ref (a k)
  | v => v
theorem mv_cat (a : Nat → Nat) (v : Value) : (mv a v).category = v.category := by cases v <;> rfl
theorem mv_cats (a : Nat → Nat) (l : List Value) : ((l.map (mv a)).map fun v => v.category) = l.map fun v => v.category := by
  rw [List.map_map]
  exact List.map_congr_left (fun v _ => mv_cat a v)
def lvl (a : Nat → Nat) : Nat → List Value → List (Nat × Value)
  | _, [] => []
  | i, v :: vs => if v = UU then lvl a (i + 1) vs else (i, mv a v) :: lvl a (i + 1) vs
theorem mem_lvl {a : Nat → Nat} {q : Nat × Value} : ∀ (l : List Value) (i : Nat), q ∈ lvl a i l ↔ ∃ (j : Nat) (v : Value), l[j]? = some v ∧ v ≠ UU ∧ q = (i + j, mv a v) := by
  intro l
  induction l with
  | nil => intro i; simp [lvl]
  | cons w ws ih =>
    intro i
    have step : (∃ (j : Nat) (v : Value), (w :: ws)[j]? = some v ∧ v ≠ UU ∧ q = (i + j, mv a v)) ↔ (w ≠ UU ∧ q = (i, mv a w)) ∨ ∃ (j : Nat) (v : Value), ws[j]? = some v ∧ v ≠ UU ∧ q = (i + 1 + j, mv a v) := by
      constructor
      · rintro ⟨j, v, h1, h2, h3⟩
        cases j with
        | zero =>
          rw [List.getElem?_cons_zero] at h1
          cases h1
          exact Or.inl ⟨h2, by simpa using h3⟩
        | succ j =>
          rw [List.getElem?_cons_succ] at h1
          exact Or.inr ⟨j, v, h1, h2, by rw [h3, show i + (j + 1) = i + 1 + j by omega]⟩
      · rintro (⟨h1, h2⟩ | ⟨j, v, h1, h2, h3⟩)
        · exact ⟨0, w, rfl, h1, by simpa using h2⟩
        · exact ⟨j + 1, v, by rw [List.getElem?_cons_succ]; exact h1, h2, by rw [h3, show i + (j + 1) = i + 1 + j by omega]⟩
    rw [step]
    unfold lvl
    by_cases hw : w = UU
    · rw [if_pos hw, ih (i + 1)]
      simp [hw]
    · rw [if_neg hw, List.mem_cons, ih (i + 1)]
      simp [hw]
def LV (a : Nat → Nat) (ls : List Value) (n : Nat) (arr : Array Slot) : Prop := ls.length ≤ n ∧ lv_has arr n (lvl a 0 ls)
theorem LV.get {a : Nat → Nat} {ls : List Value} {n : Nat} {arr : Array Slot} (h : LV a ls n arr) {p : Nat} {v : Value} (hp : ls[p]? = some v) (hv : v ≠ UU) : arr[p]? = some (.val (mv a v)) :=
  h.2.2.2 (p, mv a v) ((mem_lvl ls 0).mpr ⟨p, v, hp, hv, by simp⟩)
theorem lv_few {ls : Array Slot} {n : Nat} {l l' : List (Nat × Value)} (h : lv_has ls n l) (hs : ∀ q ∈ l', q ∈ l) : lv_has ls n l' := ⟨h.1, h.2.1, fun q hq => h.2.2 q (hs q hq)⟩
theorem LV.weak {a : Nat → Nat} {ls l1 : List Value} {n : Nat} {arr : Array Slot} (h : LV a ls n arr) (hl : lle l1 ls) : LV a l1 n arr := by
  refine ⟨by rw [hl.1]; exact h.1, lv_few h.2 fun q hq => ?_⟩
  obtain ⟨j, v, h1, h2, h3⟩ := (mem_lvl l1 0).mp hq
  rcases hl.2 j v h1 with h4 | h4
  · exact absurd h4 h2
  · exact (mem_lvl ls 0).mpr ⟨j, v, h4, h2, h3⟩
theorem dropL_len (ls : List Value) (i : Nat) : (dropL ls i).length = ls.length := by
  unfold dropL
  split
  · rfl
  · split <;> simp
theorem setl_len (ls : List Value) (i : Nat) (v : Value) : (setl ls i v).length = ls.length := by
  unfold setl
  split <;> simp [dropL_len]
theorem dropL_get {ls : List Value} {i j : Nat} {w : Value} (h2 : (dropL ls i)[j]? = some w) (h3 : w ≠ UU) : ls[j]? = some w ∧ ¬ (j + 1 = i ∧ w.category = 2) := by
  cases i with
  | zero => exact ⟨h2, fun q => by omega⟩
  | succ k =>
    have hset : (ls.set k UU)[j]? = some w → ls[j]? = some w ∧ ¬ (j + 1 = k + 1 ∧ w.category = 2) := by
      intro hx
      rw [List.getElem?_set] at hx
      split at hx
      · split at hx
        · cases hx
          exact absurd rfl h3
        · cases hx
      · rename_i hkj
        exact ⟨hx, fun q => hkj (by omega)⟩
    unfold dropL at h2
    dsimp only at h2
    split at h2
    · exact hset h2
    · exact hset h2
    · rename_i hn1 hn2
      refine ⟨h2, fun q => ?_⟩
      obtain ⟨q1, q2⟩ := q
      have hjk : j = k := by omega
      subst hjk
      cases w <;> simp [Value.category] at q2
      · exact hn1 _ h2
      · exact hn2 _ h2
theorem setl_get {ls : List Value} {i : Nat} {v : Value} {j : Nat} {w : Value} (h : (setl ls i v)[j]? = some w) (hw : w ≠ UU) :
    (j = i ∧ w = v) ∨ (j ≠ i ∧ ls[j]? = some w ∧ ¬ (j + 1 = i ∧ w.category = 2) ∧ (v.category = 2 → j ≠ i + 1)) := by
  unfold setl at h
  split at h
  · rename_i hc
    rw [List.getElem?_set] at h
    split at h
    · split at h
      · cases h
        exact absurd rfl hw
      · cases h
    · rename_i hne
      rw [List.getElem?_set] at h
      split at h
      · rename_i hij
        split at h
        · cases h
          exact Or.inl ⟨hij.symm, rfl⟩
        · cases h
      · rename_i hij
        obtain ⟨k1, k2⟩ := dropL_get h hw
        exact Or.inr ⟨fun q => hij q.symm, k1, k2, fun _ q => hne q.symm⟩
  · rename_i hc
    rw [List.getElem?_set] at h
    split at h
    · rename_i hij
      split at h
      · cases h
        exact Or.inl ⟨hij.symm, rfl⟩
      · cases h
    · rename_i hij
      obtain ⟨k1, k2⟩ := dropL_get h hw
      exact Or.inr ⟨fun q => hij q.symm, k1, k2, fun q => absurd q hc⟩
theorem LV.set1 {a : Nat → Nat} {ls : List Value} {n : Nat} {arr arr' : Array Slot} {i : Nat} {v : Value} (h : LV a ls n arr) (h' : lv_has arr' n ((i, mv a v) :: (lvl a 0 ls).filter (fun q => !(q.1 == i) && !(q.1 + 1 == i && q.2.category == 2)))) : LV a (setl ls i v) n arr' := by
  refine ⟨by rw [setl_len]; exact h.1, lv_few h' fun q hq => ?_⟩
  obtain ⟨j, w, h1, h2, h3⟩ := (mem_lvl _ 0).mp hq
  rcases setl_get h1 h2 with ⟨e1, e2⟩ | ⟨e1, e2, e3, -⟩
  · subst e1; subst e2
    rw [h3, Nat.zero_add]
    exact List.mem_cons_self
  · refine List.mem_cons_of_mem _ (List.mem_filter.mpr ⟨(mem_lvl ls 0).mpr ⟨j, w, e2, h2, h3⟩, ?_⟩)
    rw [h3]
    dsimp only
    rw [mv_cat, Nat.zero_add]
    simp only [Bool.and_eq_true, Bool.not_eq_true', beq_eq_false_iff_ne, ne_eq, Bool.and_eq_false_iff]
    refine ⟨e1, ?_⟩
    by_cases hj : j + 1 = i
    · exact Or.inr (fun q => e3 ⟨hj, q⟩)
    · exact Or.inl hj
theorem LV.set2 {a : Nat → Nat} {ls : List Value} {n : Nat} {arr arr' : Array Slot} {i : Nat} {v : Value} (h : LV a ls n arr) (hv : v.category = 2) (h' : lv_has arr' n ((i, mv a v) :: (lvl a 0 ls).filter (fun q => !(q.1 == i) && (!(q.1 == i + 1) && !(q.1 + 1 == i && q.2.category == 2))))) : LV a (setl ls i v) n arr' := by
  refine ⟨by rw [setl_len]; exact h.1, lv_few h' fun q hq => ?_⟩
  obtain ⟨j, w, h1, h2, h3⟩ := (mem_lvl _ 0).mp hq
  rcases setl_get h1 h2 with ⟨e1, e2⟩ | ⟨e1, e2, e3, e4⟩
  · subst e1; subst e2
    rw [h3, Nat.zero_add]
    exact List.mem_cons_self
  · refine List.mem_cons_of_mem _ (List.mem_filter.mpr ⟨(mem_lvl ls 0).mpr ⟨j, w, e2, h2, h3⟩, ?_⟩)
    rw [h3]
    dsimp only
    rw [mv_cat, Nat.zero_add]
    simp only [Bool.and_eq_true, Bool.not_eq_true', beq_eq_false_iff_ne, ne_eq, Bool.and_eq_false_iff]
    refine ⟨e1, e4 hv, ?_⟩
    by_cases hj : j + 1 = i
    · exact Or.inr (fun q => e3 ⟨hj, q⟩)
    · exact Or.inl hj
/-! the world -/
abbrev ct (cA : Nat → ClassId) : List (ClassId × FieldType) := [(cA 20, .int), (cA 21, .boolean), (cA 22, .object "BundleMill$Block"), (cA 23, .object "BundleMill$Plan"), (cA 24, .long), (cA 25, .double)]
def fv (a : Nat → Nat) (k : Nat) (f : Nat → Int32) (j : Nat) : Value := if fty (kd k) j = 0 then .int (f j) else if f j = 0 then .null else if fty (kd k) j = 1 then .ref (a (k + off (kd k) j)) else .ref (a (f j).toNatClampNeg)
def er (a : Nat → Nat) (k : Nat) (f : Nat → Int32) (i : Nat) : Option Nat := if f i = 0 then none else some (a (elb k + 18 * i))
def eE (cA : Nat → ClassId) (a : Nat → Nat) (k : Nat) (f : Nat → Int32) (x : UInt64) : va_E :=
  if kd k ≤ 7 then .inr (kd k, (List.range (nf (kd k))).map (fv a k f))
  else if kd k = 20 then .inl (cA 20, ln k, .inl f)
  else if kd k = 21 then .inl (cA 21, ln k, .inl f)
  else if kd k = 22 then .inl (cA 22, 6, .inr (.inr (.inr (.inr (er a k f)))))
  else if kd k = 23 then .inl (cA 23, 6, .inr (.inr (.inr (.inr (er a k f)))))
  else if kd k = 24 then .inl (cA 24, 1, .inr (.inl (fun j => if j = 0 then x.toInt64 else 0)))
  else .inl (cA 25, 1, .inr (.inr (.inr (.inl (fun j => if j = 0 then x else 0)))))
def wld (cA : Nat → ClassId) (a : Nat → Nat) (M : Mem) (X : Nat → UInt64) (n : Nat) : va_W := (List.range n).map (fun k => (a k, eE cA a k (M k) (X k)))
theorem wld_get {cA : Nat → ClassId} {a : Nat → Nat} {M : Mem} {X : Nat → UInt64} {n k : Nat} (h : k < n) : (wld cA a M X n)[k]? = some (a k, eE cA a k (M k) (X k)) := by
  unfold wld
  rw [List.getElem?_map, List.getElem?_range h]
  rfl
theorem wld_set {cA : Nat → ClassId} {a : Nat → Nat} {M M' : Mem} {X X' : Nat → UInt64} {n k : Nat} (h : k < n) (hM : ∀ j, j ≠ k → M' j = M j) (hX : ∀ j, j ≠ k → X' j = X j) : (wld cA a M X n).set k (a k, eE cA a k (M' k) (X' k)) = wld cA a M' X' n := by
  apply List.ext_getElem?
  intro j
  by_cases hj : j = k
  · subst hj
    rw [wld_get h, List.getElem?_set_self (by unfold wld; simpa using h)]
  · rw [List.getElem?_set_ne (Ne.symm hj)]
    by_cases hn : j < n
    · rw [wld_get hn, wld_get hn, hM j hj, hX j hj]
    · rw [List.getElem?_eq_none (by unfold wld; simp; omega), List.getElem?_eq_none (by unfold wld; simp; omega)]
theorem wld_push {cA : Nat → ClassId} {a : Nat → Nat} {M : Mem} {X : Nat → UInt64} {n : Nat} : wld cA a M X n ++ [(a n, eE cA a n (M n) (X n))] = wld cA a M X (n + 1) := by
  unfold wld
  rw [List.range_succ, List.map_append]
  rfl
theorem stM_row (M : Mem) (k j : Nat) (v : Int32) : stM M k j v k = upd (M k) j v := by
  funext q
  simp [stM, upd]
theorem stM_other (M : Mem) (k j : Nat) (v : Int32) {k' : Nat} (h : k' ≠ k) : stM M k j v k' = M k' := by
  funext q
  simp [stM, h]
theorem stX_row (X : Nat → UInt64) (k : Nat) (v : UInt64) : stX X k v k = v := by simp [stX]
theorem stX_other (X : Nat → UInt64) (k : Nat) (v : UInt64) {k' : Nat} (h : k' ≠ k) : stX X k v k' = X k' := by simp [stX, h]
theorem kd_big {k : Nat} (h : 180 ≤ k) : kd k = 99 := by
  have hl : kdL.length = 180 := by decide +kernel
  unfold kd
  rw [List.getD_eq_getElem?_getD, List.getElem?_eq_none (by omega)]
  rfl
theorem kd_lt {k : Nat} (h : kd k ≠ 99) : k < 180 := by
  rcases Nat.lt_or_ge k 180 with h1 | h1
  · exact h1
  · exact absurd (kd_big h1) h
/-- what a method needs of the tables beside the good words -/
def dcL : List MethodName := [⟨"java/lang/RuntimeException", "<init>", "()V"⟩, ⟨"java/lang/Exception", "<init>", "()V"⟩, ⟨"java/lang/Throwable", "<init>", "()V"⟩]
def KN (U : State) : Prop := (∀ q ∈ nsL, va_Nw (nsw q) U) ∧ (∀ e, e < 5 → va_Nw (.castable (ex e) (ex e)) U) ∧ (∀ n ∈ dcL, va_Nw (.declares n) U) ∧ (∀ e, e < 5 → ∀ e', e' < 5 → e ≠ e' → va_Nc (ex e) (ex e') U) ∧ va_AO "BundleMill$Block" U ∧ va_AO "BundleMill$Plan" U
theorem KN.warm {s U : State} (hW : s.WarmedH U.vm) (h : KN s) : KN U := by
  obtain ⟨h1, h2, h3, h4, h5, h6⟩ := h
  exact ⟨fun q hq => va_Nw.warmM hW (h1 q hq), fun e he => va_Nw.warmC hW (h2 e he), fun n hn => va_Nw.warmD hW (h3 n hn), fun e he e' he' hne => (h4 e he e' he' hne).moved hW.alike, h5.moved hW.alike, h6.moved hW.alike⟩
def KS (D : va_G) (cA : Nat → ClassId) (s : State) (A : Nat → Prop) : Prop := va_K D cl8 (ct cA) s ∧ KN s ∧ vx_Zq Bundle.tN "UNASSIGNED_STACK" Bundle.steD A s s.heap ∧ vx_Zq Bundle.tN "SUPPRESSED_SENTINEL" Bundle.listD A s s.heap
def RW (D : va_G) (cA : Nat → ClassId) (a : Nat → Nat) (M : Mem) (κ : Kp) (A : Nat → Prop) (s : State) (H : Heap) : Prop :=
  va_P D cl8 (wld cA a M (kX κ) (kN κ)) H ∧ va_D A (wld cA a M (kX κ) (kN κ)) ∧ va_X (a 999) (kL κ) (M 999) s H ∧ ¬ A (a 999) ∧ (kR κ = true → WF M ∧ kN κ = 180) ∧ kN κ ≤ 180
def FX (z : Nat) (p : Program) (l : Launch) (s : State) (m : MethodId) (args : Array Value) (meth : Method) (c : Code) : Prop :=
  p.tables.exec = Jvm.exec ∧ c.code = cc z ∧ c.maxLocals = mL z ∧ meth.sig.returnType = rt z ∧ meth.locks = false ∧ s.vm.findClass (cn (oc z)) = some m.cls ∧ (isI z = true → meth.name = "<init>") ∧ (∀ w ∈ GW, w.before args s = true) ∧ (z < 166 → c.exceptionTable.toList = tableOf (hh z)) ∧ l.stackTraces = false
def QcM (D : va_G) (cA : Nat → ClassId) (a : Nat → Nat) (out : Ou) (A : Nat → Prop) : Array Value → State → Outcome → State → Prop := fun _ st o t =>
  (∃ v, out.1 = .inl v ∧ o = .returned (v.map (mv a))) ∧ RW D cA a out.2.1 out.2.2 A t t.heap ∧ va_F A st t
def XcM (D : va_G) (cA : Nat → ClassId) (a : Nat → Nat) (out : Ou) (A : Nat → Prop) : String → State → State → Prop := fun E st t =>
  (∃ e, out.1 = .inr e ∧ E = ex e ∧ e < 5) ∧ RW D cA a out.2.1 out.2.2 A t t.heap ∧ va_F A st t
/-- what is proved of every run of the small machine -/
def SP (l : Launch) (D : va_G) (cA : Nat → ClassId) (a : Nat → Nat) : PT := fun z st out =>
  (kC st.2.2.2.2 ≤ kC out.2.2 ∧ kU st.2.2.2.2 ≤ kU out.2.2 ∧ (kR out.2.2 = false → kR st.2.2.2.2 = false ∧ kC out.2.2 + kN st.2.2.2.2 = kC st.2.2.2.2 + kN out.2.2)) ∧
  ∀ (p : Program) (e : Env) (s : State) (m : MethodId) (args : Array Value) (below : List Frame) (meth : Method) (c : Code), FX z p l s m args meth c →
  ∀ (A : Nat → Prop), KS D cA s A → (∀ q, s.heap.size ≤ q → A q) → a 999 < s.heap.size →
  ∀ (H : Heap) (locs : List Loc) (arr : Array Slot) (cells slots mc ms : Nat), RW D cA a st.2.2.2.1 st.2.2.2.2 A s H → va_S A s.heap H locs → LV a st.2.1 (mL z) arr →
    cells + kC out.2.2 = mc + kC st.2.2.2.2 → slots + kU out.2.2 = ms + kU st.2.2.2.2 →
    (kR st.2.2.2.2 = false → s.heap.size + cells = a (kN st.2.2.2.2) ∧ (kN st.2.2.2.2 = 0 → cells = 0)) →
    W p l e { frames := rf z, cells := mc, slots := ms, locals := rl z } s m args below meth c H locs cells slots (vx_MQ below (QcM D cA a out A) (XcM D cA a out A) args s mc ms A) (F0 m st.1 arr (st.2.2.1.map (mv a)))
