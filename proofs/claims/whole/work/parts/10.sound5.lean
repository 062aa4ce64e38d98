/-! SOUNDNESS, 5: calls and throws -/
section SND5
variable {l : Launch} {D : va_G} {cA : Nat → ClassId} {a : Nat → Nat}
def AA (a : Nat → Nat) (n sz : Nat) : Nat → Prop := fun q => (∃ k, k < n ∧ q = a k) ∨ sz ≤ q
def PcM (D : va_G) (cA : Nat → ClassId) (a : Nat → Nat) (av : List Value) (M : Mem) (κ : Kp) (sz : Nat) : Array Value → State → Prop := fun v U =>
  v = (av.map (mv a)).toArray ∧ U.heap.size = sz ∧ KS D cA U (AA a (kN κ) sz) ∧ RW D cA a M κ (AA a (kN κ) sz) U U.heap ∧ (kR κ = false → sz = a (kN κ))
theorem pcm_blind {av : List Value} {M : Mem} {κ : Kp} {sz : Nat} : FrameBlind (PcM D cA a av M κ sz) := by
  intro v U g mk h
  obtain ⟨h1, h2, ⟨k1, k2, k3, k4⟩, h4, h5⟩ := h
  have hv : U.vm.Alike (U.calling g mk v).vm := Vm.Alike.refl U.vm
  exact ⟨h1, h2, ⟨va_K.moved (u := U) (U := U.calling g mk v) hv k1, KN.warm (s := U) (U := U.calling g mk v) (State.WarmedH.refl U) k2, vx_Zq.moved (u := U) (U := U.calling g mk v) hv k3, vx_Zq.moved (u := U) (U := U.calling g mk v) hv k4⟩, RW.warm (s := U) (t := U.calling g mk v) h4 hv, h5⟩
theorem lg_len {vs : List Value} (h : ∀ v ∈ vs, v.category = 1) : (lg_sl vs).length = vs.length := by
  induction vs with
  | nil => rfl
  | cons v vs ih =>
    have h1 := h v List.mem_cons_self
    have h2 := ih (fun w hw => h w (List.mem_cons_of_mem _ hw))
    unfold lg_sl at h2 ⊢
    rw [List.flatMap_cons, if_neg (by omega), List.length_append, h2]
    simp
    omega
theorem lvargs_mem {vs : List Value} (h : ∀ v ∈ vs, v.category = 1) : ∀ (i j : Nat) (v : Value), vs[j]? = some v → (i + j, v) ∈ lv_args i vs := by
  induction vs with
  | nil => intro i j v hv; simp at hv
  | cons w ws ih =>
    intro i j v hv
    have h1 := h w List.mem_cons_self
    unfold lv_args
    rw [if_neg (by omega)]
    cases j with
    | zero =>
      rw [List.getElem?_cons_zero] at hv
      cases hv
      exact List.mem_cons_self
    | succ j =>
      rw [List.getElem?_cons_succ] at hv
      have := ih (fun w hw => h w (List.mem_cons_of_mem _ hw)) (i + 1) j v hv
      rw [show i + (j + 1) = i + 1 + j by omega]
      exact List.mem_cons_of_mem _ this
theorem c1s_all {av : List Value} (h : c1s av = true) : ∀ v ∈ av.map (mv a), v.category = 1 := by
  intro v hv
  obtain ⟨w, hw, rfl⟩ := List.mem_map.mp hv
  rw [mv_cat]
  simpa using List.all_eq_true.mp h w hw
theorem LV_entry {y : Nat} {av : List Value} (hc : c1s av = true) (hl : av.length ≤ mL y) : LV a (entL y av) (mL y) ((lg_sl (av.map (mv a)) ++ List.replicate (mL y - (lg_sl (av.map (mv a))).length) Slot.unset).toArray) := by
  have h1 := lg_len (c1s_all (a := a) hc)
  have h2 := lv_entry (av.map (mv a)) (n := mL y) (by rw [h1, List.length_map]; exact hl)
  refine ⟨by unfold entL; simp; omega, lv_few h2 fun q hq => ?_⟩
  obtain ⟨j, v, e1, e2, e3⟩ := (mem_lvl _ 0).mp hq
  rw [e3]
  refine lvargs_mem (c1s_all hc) 0 j _ ?_
  unfold entL at e1
  by_cases hj : j < av.length
  · rw [List.getElem?_append_left hj] at e1
    rw [List.getElem?_map, e1]
    rfl
  · rw [List.getElem?_append_right (by omega)] at e1
    exact absurd (List.eq_of_mem_replicate (List.mem_of_getElem? e1)) e2
theorem y_ok : ∀ y, y < 164 → plainName (yN y).cls = true ∧ (yN y).cls = cn (oc y) ∧ ((yN y).cls ≠ "java/lang/invoke/MethodHandle" ∧ (yN y).cls ≠ "java/lang/invoke/VarHandle") ∧ (parseMethodDescriptor (yN y).desc).map (fun d => d.parameters.length) = some (ag y) := by decide +kernel
theorem m_ok : ∀ m ∈ mrL, ag m.2.2.1 + (if kOf m.2.2.2 = 1 then 0 else 1) ≤ mL m.2.2.1 ∧ (m.2.2.2 = 2 ↔ hh m.2.2.1 ≠ []) ∧ (m.2.2.2 = 3 ∨ m.2.2.2 = 4 → (yN m.2.2.1).name = "<init>" ∧ rt m.2.2.1 = none) ∧ (4 ≤ m.2.2.2 → (m.1, m.2.1, m.2.2.1) ∈ nsL) := by decide +kernel
/-- a method's contract, for one start -/
theorem ct_of (hst : l.stackTraces = false) {y : Nat} {av : List Value} {M : Mem} {κ : Kp} {out : Ou} (hy : y < 164) (hc : c1s av = true) (hl : av.length ≤ mL y) (k : SP l D cA a y (0, entL y av, [], M, κ) out) {mc ms sz : Nat} (hmc : kC out.2.2 = mc + kC κ) (hms : kU out.2.2 = ms + kU κ) (hsz : a 999 < sz) :
    vx_Met l (yN y) (cw y :: GW) { frames := rf y, cells := mc, slots := ms, locals := rl y } (PcM D cA a av M κ sz) (QcM D cA a out (AA a (kN κ) sz)) (XcM D cA a out (AA a (kN κ) sz)) mc ms (AA a (kN κ) sz) := by
  have hA : ∀ q, sz ≤ q → AA a (kN κ) sz q := fun q h => Or.inr h
  have body : ∀ (p : Program) (e : Env) (s : State) (m : MethodId) (args : Array Value) (below : List Frame) (meth : Method) (c : Code), FX y p l s m args meth c → PcM D cA a av M κ sz args s →
      W p l e { frames := rf y, cells := mc, slots := ms, locals := rl y } s m args below meth c s.heap [] 0 0 (vx_MQ below (QcM D cA a out (AA a (kN κ) sz)) (XcM D cA a out (AA a (kN κ) sz)) args s mc ms (AA a (kN κ) sz)) (entryFrame m args (mL y)) := by
    intro p e s m args below meth c hF hv
    obtain ⟨rfl, h2, hK, hR, hz⟩ := hv
    subst h2
    rw [lg_entry_eq]
    refine k.2 p e s m _ below meth c hF _ hK hA hsz s.heap [] _ 0 0 mc ms hR va_S.rf (LV_entry hc hl) ?_ ?_ (fun h => ⟨?_, fun _ => rfl⟩)
    · rw [Nat.zero_add]; exact hmc
    · rw [Nat.zero_add]; exact hms
    · exact hz h
  have fx : ∀ {p : Program} {e : Env} {s s₁ : State} {m : MethodId} {args : Array Value} {below : List Frame} {meth : Method} {c : Code}, BodyLoose p l (yN y) (headSpec (cw y :: GW) { frames := rf y, cells := mc, slots := ms, locals := rl y }) (cc y) (mL y) (rt y) e s m args below meth c s₁ → c.maxLocals = mL y → c.exceptionTable.toList = tableOf (hh y) → FX y p l s m args meth c := by
    intro p e s s₁ m args below meth c B hml ht
    have hts := atoms_spec (ws := cw y :: GW) B.pre
    refine ⟨B.exec, B.bytes, hml, B.returns, B.notSynchronized, ?_, fun h => ?_, fun w hw => hts w (List.mem_cons_of_mem _ hw), fun _ => ht, hst⟩
    · rw [← (y_ok y (by omega)).2.1]
      exact findClass_of_methodNamed B.named
    · rw [(name_of_methodNamed B.named B.method).1]
      unfold isI at h
      simpa using h
  by_cases hh0 : hh y = []
  · have hcw : cw y = .code (yN y) (cc y) (mL y) (rt y) := by unfold cw; rw [if_pos hh0]
    refine vx_ofW (ws' := GW) (y_ok y (by omega)).1 (by rw [hcw]) ?_
    intro p e s m args below meth c s₁ B hml ht hv
    refine body p e s m args below meth c (fx B hml ?_) hv
    rw [hh0]
    exact List.eq_nil_iff_forall_not_mem.mpr (fun x hx => ht x hx)
  · have hcw : cw y = .codeWith (yN y) (cc y) (mL y) (rt y) (hh y) := by unfold cw; rw [if_neg hh0]
    refine vx_ofWH (ws' := GW) (hh := hh y) (y_ok y (by omega)).1 (by rw [hcw]) ?_
    intro p e s m args below meth c s₁ B hml hv
    refine body p e s m args below meth c (fx B hml ?_) hv
    refine vx_table (x := yN y) B (y := yN y) (bytes := cc y) (maxL' := mL y) (ret' := rt y) ?_
    have hts := atoms_spec (ws := cw y :: GW) B.pre
    have h9 := hts (cw y) List.mem_cons_self
    rw [hcw] at h9
    exact h9
theorem met_of_vx {y : MethodName} {ws : List Cond} {rm : Room} {Pc : Array Value → State → Prop} {Qc : Array Value → State → Outcome → State → Prop} {XC : String → State → State → Prop} {mc ms : Nat} {free : Addr → Prop} (h : vx_Met l y ws rm Pc Qc XC mc ms free) (hX : ∀ E s t, ¬ XC E s t) : Met l y ws rm Pc Qc mc ms free := by
  refine MetFree.mono h (fun _ _ q => q) (fun _ _ _ _ _ _ => trivial) fun v s o t _ hq => ?_
  rcases hq with hq | ⟨q, -, E, ce, L, hx, -⟩
  · exact hq
  · exact absurd hx (hX E s t)
theorem aa_sub {M : Mem} {κ : Kp} {A : Nat → Prop} {s : State} {H : Heap} {locs : List Loc} (hR : RW D cA a M κ A s H) (hS : va_S A s.heap H locs) (hA : ∀ q, s.heap.size ≤ q → A q) : ∀ q, AA a (kN κ) H.size q → A q := by
  intro q hq
  rcases hq with ⟨k, hk, rfl⟩ | hq
  · exact hR.2.1.2 k _ (wld_get hk)
  · exact hA q (Nat.le_trans hS.1 hq)
theorem pcm_of {M : Mem} {κ : Kp} {A : Nat → Prop} {s U : State} {H : Heap} {locs : List Loc} (av : List Value) (hK : KS D cA s A) (hR : RW D cA a M κ A s H) (hS : va_S A s.heap H locs) (hA : ∀ q, s.heap.size ≤ q → A q) (hsz : kR κ = false → H.size = a (kN κ)) (hU : U.heap = H) (hW : s.WarmedH U.vm) : PcM D cA a av M κ H.size (av.map (mv a)).toArray U := by
  have hsub := aa_sub hR hS hA
  obtain ⟨k1, k2, k3, k4⟩ := hK
  obtain ⟨r1, r2, r3, r4, r5⟩ := hR
  subst hU
  refine ⟨rfl, rfl, ⟨va_K.moved hW.alike k1, KN.warm hW k2, ((k3.kept hS.2.1).moved hW.alike).narrow hsub, ((k4.kept hS.2.1).moved hW.alike).narrow hsub⟩, ⟨r1, ⟨r2.1, fun k q hq => ?_⟩, va_X.moved hW.alike r3, fun h => r4 (hsub _ h), r5⟩, hsz⟩
  unfold wld at hq
  rw [List.getElem?_map] at hq
  by_cases hk : k < kN κ
  · rw [List.getElem?_range hk] at hq
    cases hq
    exact Or.inl ⟨k, hk, rfl⟩
  · rw [List.getElem?_eq_none (by simp; omega)] at hq
    cases hq
theorem my_call {p : Program} {e : Env} {R : Room} {s : State} {m : MethodId} {args : Array Value} {below : List Frame} {meth : Method} {c : Code} {H : Heap} {locs : List Loc} {cells slots mc ms : Nat} {Q : State → Prop} {pc : Nat} {ls : Array Slot} {rest st0 : List Value} {A A1 : Nat → Prop} {v : Option Value} {M1 : Mem} {κ1 : Kp} {av : Array Value}
    (hr : va_Run p l e R s m args below meth c H locs cells slots mc ms (F0 m pc ls st0) rest (QcM D cA a (.inl v, M1, κ1) A1 av) A1) (hsub : ∀ q, A1 q → A q) (hS : va_S A s.heap H locs) (hn : ¬ A (a 999))
    (kk : ∀ (H1 : Heap) (locs1 : List Loc), RW D cA a M1 κ1 A s H1 → va_S A s.heap H1 locs1 → W p l e R s m args below meth c H1 locs1 (cells + mc) (slots + ms) Q (F0 m (pc + 3) ls ((v.map (mv a)).toList ++ rest))) : W p l e R s m args below meth c H locs cells slots Q (F0 m pc ls st0) := by
  intro T hT X
  obtain ⟨v1, st₀, t, T', L, h0, X', hL, e1, e2, ⟨⟨v2, hv2, hv1⟩, hR, hz, hk⟩, st⟩ := hr T hT X
  cases hv2
  cases hv1
  rw [h0] at hz hk
  have hvm : s.vm.Alike t.vm := by rw [← e2]; exact X'.warmed.alike
  have hR1 : RW D cA a M1 κ1 A s T'.heap := by
    rw [e1]
    have hR2 := hR.warm (t := s) hvm.symm
    exact ⟨hR2.1, hR2.2.1.weaken (fun _ _ _ h => hsub _ h), hR2.2.2.1, hn, hR2.2.2.2.2⟩
  obtain ⟨t2, a1, b1⟩ := kk T'.heap (locs ++ L) hR1 ⟨Nat.le_trans hS.1 (by rw [e1]; exact hz), fun q h1 h2 => by rw [e1, hk q (Nat.lt_of_lt_of_le h1 hS.1) (fun z => h2 (hsub q z))]; exact hS.2.1 q h1 h2, fun q hq => by
      rcases List.mem_append.mp hq with h | h
      · exact hS.2.2 q h
      · exact hsub _ (hL q h)⟩ T' rfl X'
  exact ⟨t2, st t2 a1, b1⟩
theorem my_callT {p : Program} {e : Env} {R : Room} {s : State} {m : MethodId} {args : Array Value} {below : List Frame} {meth : Method} {c : Code} {H : Heap} {locs : List Loc} {cells slots mc ms : Nat} {Q : State → Prop} {pc : Nat} {ls : Array Slot} {rest st0 : List Value} {A A1 : Nat → Prop} {x : Nat} {M1 : Mem} {κ1 : Kp} {av : Array Value}
    (hr : vx_Run p l e R s m args below meth c H locs cells slots mc ms (F0 m pc ls st0) rest (QcM D cA a (.inr x, M1, κ1) A1 av) (XcM D cA a (.inr x, M1, κ1) A1) A1) (hsub : ∀ q, A1 q → A q) (hS : va_S A s.heap H locs) (hn : ¬ A (a 999))
    (kk : ∀ (H1 : Heap) (locs1 : List Loc) (ce : Cell) (q9 : Addr), x < 5 → RW D cA a M1 κ1 A s H1 → va_S A s.heap H1 locs1 → H1[q9]? = some ce → ce.vm = .none → s.vm.findClass (ex x) = some ce.cls → vx_W p l e R s m args below meth c H1 locs1 (cells + mc) (slots + ms) Q (F0 m pc ls rest) q9) : W p l e R s m args below meth c H locs cells slots Q (F0 m pc ls st0) := by
  intro T hT X
  rcases hr T hT X with ⟨v1, st₀, t, T', L, h0, X', hL, e1, e2, ⟨⟨v2, hv2, -⟩, -⟩, st⟩ | ⟨q, st₀, t, T', L, E, ce, h0, X', hL, e1, e2, ⟨⟨x2, hx2, rfl, hx5⟩, hR, hz, hk⟩, hce, hcv, hcl, st⟩
  · cases hv2
  · cases hx2
    rw [h0] at hz hk
    have hvm : s.vm.Alike t.vm := by rw [← e2]; exact X'.warmed.alike
    have hR1 : RW D cA a M1 κ1 A s T'.heap := by
      rw [e1]
      have hR2 := hR.warm (t := s) hvm.symm
      exact ⟨hR2.1, hR2.2.1.weaken (fun _ _ _ h => hsub _ h), hR2.2.2.1, hn, hR2.2.2.2.2⟩
    obtain ⟨t2, a1, b1⟩ := kk T'.heap (locs ++ L) ce q hx5 hR1 ⟨Nat.le_trans hS.1 (by rw [e1]; exact hz), fun q h1 h2 => by rw [e1, hk q (Nat.lt_of_lt_of_le h1 hS.1) (fun z => h2 (hsub q z))]; exact hS.2.1 q h1 h2, fun q hq => by
        rcases List.mem_append.mp hq with h | h
        · exact hS.2.2 q h
        · exact hsub _ (hL q h)⟩ (by rw [e1]; exact hce) hcv hcl T' rfl X'
    exact ⟨t2, st.trans a1, b1⟩
theorem gw_good {w : Cond} (h : w ∈ GW) : (w.onTables && w.keeps) = true ∨ ∃ ty, w = .arrayClass ty := good_of_word (List.mem_filter.mp h).2
theorem good_gw {ws : List Cond} (h : ∀ w ∈ ws, w ∈ GW) : GoodIn GW ws := fun w hw => ⟨h w hw, gw_good (h w hw)⟩
theorem cw_gw {y : Nat} (hy : y < 166) : ∀ w ∈ cw y :: GW, w ∈ GW := fun w hw => (List.mem_cons.mp hw).elim (fun e => by rw [e]; exact cwa_u166 y hy) id
theorem inv_of {i : Instr} (h : ik i ≠ 3) : ilen i = 3 ∧ isLd i = none ∧ (ik i = 0 → i = .invokevirtual (ia i)) ∧ (ik i = 1 → i = .invokestatic (ia i)) ∧ (ik i = 2 → i = .invokespecial (ia i)) := by
  cases i <;> first | (exact absurd rfl h) | (refine ⟨rfl, rfl, fun q => ?_, fun q => ?_, fun q => ?_⟩ <;> first | rfl | cases q)
/-- what a call's row says -/
theorem inv_row {z pc y nx q r : Nat} {i : Instr} {x : Int32} (h1 : ins z pc = some (i, nx, y, q, r, x)) (hi : ik i ≠ 3) (hq : q < 6) : decode (cc z) pc = .ok (i, 3) ∧ nx = pc + 3 ∧ (oc z, ia i, y, q) ∈ mrL ∧ ik i = kOf q ∧ r = ag y + (if kOf q = 1 then 0 else 1) ∧ rf y + 1 ≤ rf z ∧ 8 + (mL y + 11) + rl y ≤ rl z := by
  obtain ⟨e1, e2, -⟩ := inv_of hi
  obtain ⟨hd, hn, hv⟩ := dec h1 (by omega)
  rw [e1] at hd hn
  have hv2 : (match isLd i with
    | some k => k == y
    | none => if ik i = 3 then true else if q = 9 then ik i == 2 && oinL.contains (oc z, ia i) && decide (1 ≤ rf z) && decide (20 ≤ rl z) else if q = 8 then true else mrL.contains (oc z, ia i, y, q) && decide (q < 6) && decide (y < 166) && ik i == kOf q && r == ag y + (if kOf q = 1 then 0 else 1) && decide (rf y + 1 ≤ rf z) && decide (8 + (mL y + 11) + rl y ≤ rl z)) = true := by
    cases i <;> first | exact hv | (exact absurd rfl hi)
  rw [e2] at hv2
  dsimp only at hv2
  rw [if_neg hi, if_neg (by omega), if_neg (by omega)] at hv2
  simp only [Bool.and_eq_true, decide_eq_true_eq, beq_iff_eq] at hv2
  obtain ⟨⟨⟨⟨⟨⟨m1, -⟩, -⟩, m2⟩, m3⟩, m4⟩, m5⟩ := hv2
  exact ⟨hd, hn, by simpa using m1, m2, m3, m4, m5⟩
end SND5
