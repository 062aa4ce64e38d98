/-! SOUNDNESS, 7: throws, and the whole -/
section SND7
variable {l : Launch} {D : va_G} {cA : Nat → ClassId} {a : Nat → Nat}
def nmL : List String := ["java/lang/RuntimeException", "java/lang/Exception"]
/-- the words of a throw -/
def thw (t : Nat × Nat × Nat × Nat) : List Cond := Cond.classLink (cn t.1) t.2.1 (ex t.2.2.2) :: Cond.initialized (ex t.2.2.2) :: vx_at0 (cn t.1) t.2.2.1 (ex t.2.2.2) nmL
set_option maxRecDepth 100000 in
theorem th_in : ∀ t ∈ thL, t.2.2.2 < 5 ∧ (thw t).all (fun w => vx_ot w && decide (w ∈ lw_tbl)) = true := by decide +kernel
set_option maxRecDepth 100000 in
theorem th_sp : ∀ t ∈ thL, (thw t).all (fun w => goodWord w || decide (w = .castable (ex t.2.2.2) (ex t.2.2.2)) || dcL.any (fun n => decide (w = .declares n))) = true := by decide +kernel
theorem ex_fit : ∀ e, e < 5 → Bundle.fit (ex e) = true := by decide +kernel
theorem nm_fit : ∀ n ∈ nmL, Bundle.fit n = true := by decide +kernel
theorem th_words {s : State} {args : Array Value} {t : Nat × Nat × Nat × Nat} (ht : t ∈ thL) (hts : ∀ w ∈ GW, w.before args s = true) (hK : KN s) : ∀ w ∈ thw t, w.before args s = true := by
  intro w hw
  obtain ⟨h5, h1⟩ := th_in t ht
  have h2 := List.all_eq_true.mp h1 w hw
  have h3 := List.all_eq_true.mp (th_sp t ht) w hw
  simp only [Bool.and_eq_true, decide_eq_true_eq, Bool.or_eq_true] at h2 h3
  rcases h3 with (h3 | h3) | h3
  · exact hts w (List.mem_filter.mpr ⟨h2.2, h3⟩)
  · rw [h3]
    exact va_Nw.use rfl (hK.2.1 _ h5)
  · obtain ⟨n, hn, he⟩ := List.any_eq_true.mp h3
    rw [decide_eq_true_eq] at he
    rw [he]
    exact va_Nw.use rfl (hK.2.2.1 n hn)
theorem s_throw : cl_throw (SP l D cA a) := by
  intro z pc ls st M κ out nx ei q r x ix h1 h2 hr0 hz6 h3 h4
  subst h2
  obtain ⟨hd, -, hv⟩ := dec h1 (by simp [ilen])
  refine ⟨⟨Nat.le_succ _, Nat.le_add_right _ _, fun h => ?_⟩, fun p e s m args below meth c hF A hK hA hb H locs arr cells slots mc ms hR hS hL hc hu hz => ?_⟩
  · have h' : kR κ = false := h
    rw [hr0] at h'
    cases h'
  · dsimp only [kC, kU] at hc hu
    obtain ⟨hx, hbb, hml, -, hlk, hown, -, hts, hex, hstt⟩ := hF
    have hv2 : (1 == 1 && thL.any (fun t => t.1 == oc z && t.2.1 == ix && t.2.2.2 == ei && decide (decode (cc z) (pc + 4) = .ok (.invokespecial t.2.2.1, 3))) && decide (decode (cc z) (pc + 3) = .ok (.dup, 1)) && decide (decode (cc z) (pc + 7) = .ok (.athrow, 1)) && decide (6 ≤ rf z) && decide (89 ≤ rl z)) = true := hv
    simp only [Bool.and_eq_true, decide_eq_true_eq] at hv2
    obtain ⟨⟨⟨⟨⟨-, v1⟩, d3⟩, d7⟩, v4⟩, v5⟩ := hv2
    obtain ⟨t, ht, htt⟩ := List.any_eq_true.mp v1
    simp only [Bool.and_eq_true, decide_eq_true_eq, beq_iff_eq] at htt
    obtain ⟨⟨⟨t1, t2⟩, t3⟩, d4⟩ := htt
    have hw := th_words ht hts hK.2.1
    obtain ⟨h5, hg⟩ := th_in t ht
    have hgood : ∀ w ∈ thw t, vx_ot w = true := fun w hw2 => by
      have := List.all_eq_true.mp hg w hw2
      simp only [Bool.and_eq_true] at this
      exact this.1
    unfold thw at hw hgood
    rw [t1, t2, t3] at hw hgood
    rw [t3] at h5
    have hrest : ((st.map (mv a)).map fun v => v.category).sum ≤ 8 := by rw [mv_cats]; exact h4
    have hnl : nmL.length = 2 := rfl
    refine vx_throw0 (A := A) hx hbb hstt (own := cn (oc z)) (cls := ex ei) (names := nmL) (ik := ix) (ic := t.2.2.1) hown (ex_fit _ h5) nm_fit (hw _ List.mem_cons_self) (hw _ (List.mem_cons_of_mem _ List.mem_cons_self)) (fun w hw2 => hw _ (List.mem_cons_of_mem _ (List.mem_cons_of_mem _ hw2))) hgood hK.2.2.1 hK.2.2.2 hS (hL.2.1.trans hml.symm) hd d3 d4 d7 ?_ (show nmL.length + 3 < rf z by omega) (show _ ≤ rl z from Nat.le_trans (Nat.add_le_add_right hrest _) (by rw [hnl]; omega)) (show cells + 1 ≤ mc by omega) (show slots + 6 ≤ ms by omega) hlk ?_ hS.2.2 (by omega) (by omega)
    · rw [hex hz6, h3]
      intro x hx2
      cases hx2
    · intro t9 hvm hsz hkeep
      have hR2 := hR.warm (t := t9) hvm
      have hb9 : a 999 < H.size := Nat.lt_of_lt_of_le hb hS.1
      refine ⟨⟨ei, rfl, rfl, h5⟩, ⟨hR2.1.kept (fun k q hq => hkeep _ ((hR2.1 k q hq).lt)), hR2.2.1, hR2.2.2.1.kept (hkeep _ hb9), hR2.2.2.2⟩, Nat.le_trans hS.1 hsz, fun q h1 h2 => ?_⟩
      rw [hkeep q (Nat.lt_of_lt_of_le h1 hS.1)]
      exact hS.2.1 q h1 h2
/-- a call that throws: as far as the throw -/
theorem callT_core (ha : ∀ n, n < 180 → a (n + 1) = a n + 1) {z pc nx y r : Nat} {i : Instr} {x : Int32} {ls st av rest : List Value} {M M1 : Mem} {κ κ1 : Kp} {ee : Nat} (h1 : ins z pc = some (i, nx, y, 0, r, x)) (hi : ik i ≠ 3) (hy : y < 164) (hst : st = av.reverse ++ rest) (h5 : av.length = r) (hc1 : c1s av = true) (h8 : rm8 rest) (hrecv : kOf 0 ≠ 1 → ∃ k as, av = .ref k :: as ∧ kd k = oc y ∧ k < kN κ)
    (kc : SP l D cA a y (0, entL y av, [], M, κ) (.inr ee, M1, κ1))
    {p : Program} {e : Env} {s : State} {m : MethodId} {args : Array Value} {below : List Frame} {meth : Method} {c0 : Code} (hF : FX z p l s m args meth c0) {A : Nat → Prop} (hK : KS D cA s A) (hA : ∀ q, s.heap.size ≤ q → A q) (hb : a 999 < s.heap.size) {H : Heap} {locs : List Loc} {arr : Array Slot} {cells slots mc ms : Nat} (hR : RW D cA a M κ A s H) (hS : va_S A s.heap H locs) (hL : LV a ls (mL z) arr) (hc : cells + kC κ1 = mc + kC κ) (hu : slots + kU κ1 = ms + kU κ) (hz : kR κ = false → s.heap.size + cells = a (kN κ) ∧ (kN κ = 0 → cells = 0)) {Q : State → Prop}
    (kk : ∀ (H1 : Heap) (locs1 : List Loc) (ce : Cell) (q9 : Addr), ee < 5 → RW D cA a M1 κ1 A s H1 → va_S A s.heap H1 locs1 → H1[q9]? = some ce → ce.vm = .none → s.vm.findClass (ex ee) = some ce.cls → vx_W p l e { frames := rf z, cells := mc, slots := ms, locals := rl z } s m args below meth c0 H1 locs1 mc ms Q (F0 m pc arr (rest.map (mv a))) q9) :
    W p l e { frames := rf z, cells := mc, slots := ms, locals := rl z } s m args below meth c0 H locs cells slots Q (F0 m pc arr (st.map (mv a))) := by
  obtain ⟨hd, -, hm, hk, hr, hf, hl⟩ := inv_row h1 hi (by omega)
  obtain ⟨m1, m2, m3, m4⟩ := m_ok _ hm
  dsimp only at m1 m2
  have kc1 := kc.1
  dsimp only at kc1
  intro T hT X
  have hub : H.size ≤ s.heap.size + cells := by rw [← hT]; exact X.heapSize
  have hbH : a 999 < H.size := Nat.lt_of_lt_of_le hb hS.1
  obtain ⟨hx, hbb, hml, -, -, hown, -, hts, -, hstt⟩ := id hF
  have hnA := hR.2.2.2.1
  have hsub := aa_sub hR hS hA
  have hsz : kR κ = false → H.size = a (kN κ) := fun h => hsize ha hR hS (hz h) hub
  obtain ⟨mc1, hmc1⟩ : ∃ d, kC κ1 = d + kC κ := ⟨kC κ1 - kC κ, by omega⟩
  obtain ⟨ms1, hms1⟩ : ∃ d, kU κ1 = d + kU κ := ⟨kU κ1 - kU κ, by omega⟩
  have hcm : cells + mc1 = mc := by omega
  have hcs : slots + ms1 = ms := by omega
  have hct := ct_of hstt hy hc1 (show av.length ≤ mL y by omega) kc hmc1 hms1 hbH
  have hpc : ∀ U : State, U.heap = H → s.WarmedH U.vm → PcM D cA a av M κ H.size (av.map (mv a)).toArray U := fun U hU hW => pcm_of av hK hR hS hA hsz hU hW
  have hsizes : arr.size = mL z := hL.2.1
  have h8' : ((rest.map (mv a)).map fun v => v.category).sum ≤ 8 := by rw [mv_cats]; exact h8
  obtain ⟨k0, as, rfl, hkd, hkn⟩ := hrecv (by decide)
  have hii : i = .invokevirtual (ia i) := (inv_of hi).2.2.1 hk
  subst hst
  rw [stk_v]
  have he := wld_get (cA := cA) (a := a) (M := M) (X := kX κ) hkn
  have hk8 : kd k0 ≤ 7 := by
    have : oc y ≤ 10 := (show ∀ y, y < 167 → oc y ≤ 10 by decide +kernel) y (by omega)
    have h19 : ∀ k, k < 180 → kd k ≤ 10 → kd k ≤ 7 := by decide +kernel
    exact h19 k0 (Nat.lt_of_lt_of_le hkn hR.2.2.2.2.2) (by omega)
  rw [eE_obj hk8] at he
  have hrec := va_recv hK.1 hR.1 (cl8_get _ (by omega)) he
  rw [hkd] at hrec
  have hrec2 : ∃ cell : Cell, H[a k0]? = some cell ∧ cell.vm.isStatics = false ∧ s.vm.findClass (cn (oc y)) = some cell.cls := hrec
  refine my_callT (mc := mc1) (ms := ms1) (vx_runV (As := as.map (mv a)) (rest := rest.map (mv a)) ⟨hx, hbb, hml, hown, hts⟩ hct (cwv_of hts hy hm hf hl) ⟨pcm_blind, hrec2, hpc⟩ rfl ?_ hsizes rfl (lv_room h8') (by rw [hii] at hd; exact hd) ⟨Nat.le_of_eq hcm, Nat.le_of_eq hcs⟩) hsub hS hnA (fun H1 locs1 ce q9 h5e hR1 hS1 g1 g2 g3 => ?_) T hT X
  · rw [List.length_map]
    simp only [List.length_cons] at h5
    have : kOf 0 ≠ 1 := by decide
    rw [if_neg this] at hr
    omega
  · rw [hcm, hcs]
    exact kk H1 locs1 ce q9 h5e hR1 hS1 g1 g2 g3
theorem s_callT (ha : ∀ n, n < 180 → a (n + 1) = a n + 1) : cl_callT (SP l D cA a) := by
  intro z pc ls st M κ out i nx y q r x av rest ee M1 κ1 h1 hi hy hq hst h5 hc1 h8 hrecv hq0 hz6 hh0 kc
  subst hq0
  refine ⟨kc.1, fun p e s m args below meth c0 hF A hK hA hb H locs arr cells slots mc ms hR hS hL hc hu hz => ?_⟩
  refine callT_core ha h1 hi hy hst h5 hc1 h8 hrecv kc hF hK hA hb hR hS hL hc hu hz fun H1 locs1 ce q9 h5e hR1 hS1 g1 g2 g3 => ?_
  obtain ⟨hx, hbb, hml, -, hlk, hown, -, hts, hex, hstt⟩ := hF
  refine vx_out (E := ex ee) ?_ hlk g1 g2 g3 ?_ hS1.2.2 (Nat.le_refl _) (Nat.le_refl _)
  · rw [hex hz6, hh0]
    intro x hx2
    cases hx2
  · intro t ht hvm
    exact ⟨⟨ee, rfl, rfl, h5e⟩, by rw [ht]; exact hR1.warm hvm, hS1.F ht⟩
/-! the handlers -/
def hcL : List (Nat × Nat) := [(13, 0), (19, 1), (29, 2), (34, 3), (50, 4)]
def hcW : List Cond := hcL.map (fun q => Cond.classLink (cn 9) q.1 (ex q.2))
set_option maxRecDepth 100000 in
theorem hcW_ok : hcW.all (fun w => goodWord w && decide (w ∈ lw_tbl)) = true := by decide +kernel
theorem hcW_in : ∀ w ∈ hcW, w ∈ GW := fun w hw => by
  have := List.all_eq_true.mp hcW_ok w hw
  simp only [Bool.and_eq_true, decide_eq_true_eq] at this
  exact List.mem_filter.mpr ⟨this.2, this.1⟩
def isAst : Instr → Bool
  | .astore _ => true
  | .astore_n _ => true
  | _ => false
def hcode (z hp : Nat) (w : Int32) : Bool := match ins z hp with
  | some (i, nx, p, _, _, _) => isAst i && decide (p < mL z) && (match ins z nx with
    | some (.iconst _, nx2, _, _, _, x) => x == w && (match ins z nx2 with
      | some (.ireturn, _) => true
      | _ => false)
    | _ => false)
  | none => false
def hchk (h : Nat × Nat × Int32 × Nat × Nat) : Bool :=
  decide (h.1 < 164) && oc h.1 == 9 && decide (h.2.1 < 5) && decide (rt h.1 = some .int) &&
  (match (hh h.1)[h.2.2.2.1]? with | some q => q.2.2.1 == h.2.2.2.2 && hcL.contains (q.2.2.2, h.2.1) && q.2.2.2 != 0 | none => false) &&
  ((hh h.1).take h.2.2.2.1).all (fun q => q.2.2.2 != 0 && hcL.any (fun c => c.1 == q.2.2.2 && c.2 != h.2.1 && decide (c.2 < 5))) &&
  (tb h.1).all (fun t => ik t.2.1 != 0 || (hh h.1).all (fun q => decide (q.1 ≤ t.1) && decide (t.1 < q.2.1))) && hcode h.1 h.2.2.2.2 h.2.2.1
set_option maxRecDepth 100000 in
theorem hchk_ok : hdL.all hchk = true := by decide +kernel
end SND7
