/-! SOUNDNESS, 3: the clauses that write and make -/
section SND3
variable {l : Launch} {D : va_G} {cA : Nat → ClassId} {a : Nat → Nat}
theorem sp2 {z pc nx : Nat} {ls st st' : List Value} {M M' : Mem} {κ κ' : Kp} {out : Ou} (hκ : kN κ' = kN κ ∧ kC κ' = kC κ ∧ kU κ' = kU κ ∧ kR κ' = kR κ) (k : SP l D cA a z (nx, ls, st', M', κ') out)
    (row : ∀ (p : Program) (e : Env) (s : State) (m : MethodId) (args : Array Value) (below : List Frame) (meth : Method) (c : Code) (R : Room) (A : Nat → Prop) (H : Heap) (locs : List Loc) (arr : Array Slot) (cells slots : Nat) (Q : State → Prop), FX z p l s m args meth c → KS D cA s A → RW D cA a M κ A s H → va_S A s.heap H locs → a 999 < s.heap.size →
      (∀ (H1 : Heap) (locs1 : List Loc), RW D cA a M' κ' A s H1 → va_S A s.heap H1 locs1 → W p l e R s m args below meth c H1 locs1 cells slots Q (F0 m nx arr (st'.map (mv a)))) → W p l e R s m args below meth c H locs cells slots Q (F0 m pc arr (st.map (mv a)))) : SP l D cA a z (pc, ls, st, M, κ) out := by
  obtain ⟨k1, k3⟩ := k
  obtain ⟨e1, e2, e3, e4⟩ := hκ
  dsimp only at k1 k3
  rw [e1, e2, e3, e4] at k1 k3
  refine ⟨k1, fun p e s m args below meth c hF A hK hA hb H locs arr cells slots mc ms hR hS hL hc hu hz => ?_⟩
  refine row p e s m args below meth c _ A H locs arr cells slots _ hF hK hR hS hb fun H1 locs1 hR1 hS1 => ?_
  exact k3 p e s m args below meth c hF A hK hA hb H1 locs1 arr cells slots mc ms hR1 hS1 hL hc hu hz
theorem RW.put {M M' : Mem} {κ κ' : Kp} {A : Nat → Prop} {s : State} {H H1 : Heap} {locs locs1 : List Loc} {k : Nat} {E : va_E} (hR : RW D cA a M κ A s H) (hS : va_S A s.heap H locs) (hS1 : va_S A s.heap H1 locs1) (hb : a 999 < s.heap.size) (hk : k < kN κ) (hE : eE cA a k (M' k) (kX κ' k) = E) (hM : ∀ j, j ≠ k → M' j = M j) (hX : ∀ j, j ≠ k → kX κ' j = kX κ j)
    (e1 : kN κ' = kN κ) (e2 : kR κ' = kR κ) (e3 : kL κ' = kL κ) (hP1 : va_P D cl8 ((wld cA a M (kX κ) (kN κ)).set k (a k, E)) H1) (hD1 : va_D A ((wld cA a M (kX κ) (kN κ)).set k (a k, E))) (hW : WF M → WF M') : RW D cA a M' κ' A s H1 := by
  obtain ⟨r1, r2, r3, r4, r5, r6⟩ := hR
  subst hE
  rw [wld_set hk hM hX] at hP1 hD1
  have h9 : M' 999 = M 999 := hM 999 (by omega)
  refine ⟨by rw [e1]; exact hP1, by rw [e1]; exact hD1, ?_, r4, fun h => ?_, by rw [e1]; exact r6⟩
  · rw [e3, h9]
    exact r3.kept ((hS1.2.1 _ hb r4).trans (hS.2.1 _ hb r4).symm)
  · rw [e2] at h
    rw [e1]
    exact ⟨hW (r5 h).1, (r5 h).2⟩
theorem WF_st {M : Mem} {k j : Nat} {v : Int32} (h : sref k j = false ∨ v ≠ 0) (hW : WF M) : WF (stM M k j v) := by
  intro k' j' hs
  unfold stM
  split
  · rename_i hq
    obtain ⟨rfl, rfl⟩ := hq
    rcases h with h | h
    · rw [h] at hs; cases hs
    · exact h
  · exact hW k' j' hs
theorem fs_set {n q : Nat} {f g : Nat → Value} {y : Value} (hg : g q = y) (ho : ∀ j, j ≠ q → f j = g j) : ((List.range n).map f).set q y = (List.range n).map g := by
  apply List.ext_getElem?
  intro j
  by_cases hj : j = q
  · subst hj
    by_cases hn : j < n
    · rw [List.getElem?_set_self (by simpa using hn), List.getElem?_map, List.getElem?_range hn, ← hg]
      rfl
    · rw [List.getElem?_eq_none (by simp; omega), List.getElem?_eq_none (by simp; omega)]
  · rw [List.getElem?_set_ne (Ne.symm hj), List.getElem?_map, List.getElem?_map]
    by_cases hn : j < n
    · rw [List.getElem?_range hn]
      exact congrArg some (ho j hj)
    · rw [List.getElem?_eq_none (by simp; omega)]
      rfl
theorem fT_ok : ∀ c, c < 8 → ∀ k, k < nf c → parseFieldDescriptor (tF c k).2.2.1 = some (fT c k) := by decide +kernel
theorem fN_ok : ∀ c, c < 8 → ∀ x, x < nf c → ∀ y, y < nf c → x ≠ y → (tF c x).2.1 ≠ (tF c y).2.1 := by decide +kernel
theorem fI_ok : ∀ c, c < 8 → ∀ k, k < nf c → fty c k = 0 → (tF c k).2.2.2 = false ∧ fT c k = if fbo c k = 1 then .boolean else .int := by decide +kernel
theorem fR_ok : ∀ c, c < 8 → ∀ k, k < nf c → fty c k ≠ 0 → (match fT c k with | .object _ => true | .array _ => true | _ => false) = true ∧ (tF c k).1 = cn c ∧ ((tF c k).2.2.2 = decide (fty c k = 1)) := by decide +kernel
theorem fR_narrow {t : FieldType} (h : (match t with | .object _ => true | .array _ => true | _ => false) = true) (x : Nat) : narrow t (.ref x) = .ref x ∧ fits t (.ref x) = true := by
  cases t <;> first | (cases h; done) | exact ⟨rfl, rfl⟩
theorem isB_01 {v : Int32} (h : isB v = true) : v = 0 ∨ v = 1 := by simpa [isB] using h
theorem fI_narrow {t : FieldType} {v : Int32} {b : Nat} (h : t = if b = 1 then .boolean else .int) (hv : b = 1 → isB v = true) : narrow t (.int v) = .int v ∧ fits t (.int v) = true := by
  subst h
  split
  · rename_i hb
    rcases isB_01 (hv hb) with rfl | rfl <;> exact ⟨by decide, by decide⟩
  · exact ⟨rfl, rfl⟩
theorem s_putI : cl_putI (SP l D cA a) := by
  intro z pc ls st M κ out nx p q r x ix k v h1 h2 h3 h4 h5 kp
  subst h2
  obtain ⟨hd, rfl, hv⟩ := dec h1 (by simp [ilen])
  refine sp2 ⟨rfl, rfl, rfl, rfl⟩ kp fun p e s m args below meth c R A H locs arr cells slots Q hF hK hR hS hb kk => ?_
  obtain ⟨hx, hbb, -, -, -, hown, -, hts, -⟩ := hF
  simp only [vld1, Bool.and_eq_true, decide_eq_true_eq] at hv
  obtain ⟨hm, hq⟩ := hv
  have hp := nf_lt hq
  have hw : (Cond.fieldLink (cn (oc z)) ix (tF (kd k) q).1 (tF (kd k) q).2.1 (tF (kd k) q).2.2.1).before args s = true := hts _ (frW_in _ (List.mem_map.mpr ⟨(oc z, ix, kd k, q), by simpa using hm, rfl⟩))
  have he := wld_get (cA := cA) (a := a) (M := M) (X := kX κ) h4
  rw [eE_obj (by omega)] at he
  obtain ⟨hfin, hty⟩ := fI_ok _ hp q hq h3
  obtain ⟨hnar, hfit⟩ := fI_narrow (v := v) hty h5
  refine va_put hx hbb hts (uw_in hp) (fT (kd k)) (fT_ok _ hp) (fN_ok _ hp) hown hK.1 hR.1 hR.2.1 hS k he (cl8_get _ hp) q hq hw (fun _ h => h) hfin (fT_ok _ hp q hq) hnar hfit (by simpa using hq) hd fun H1 locs1 hP1 hD1 hS1 => ?_
  refine kk H1 locs1 (hR.put hS hS1 hb h4 ?_ (fun j hj => stM_other _ _ _ _ hj) (fun _ _ => rfl) rfl rfl rfl hP1 hD1 (WF_st (Or.inl ?_))) hS1
  · rw [eE_obj (by omega), stM_row, fs_set (g := fv a k (upd (M k) q v)) (by unfold fv; rw [if_pos h3]; simp [upd]; rfl) (fun j hj => by unfold fv; simp [upd, hj])]
  · unfold sref
    rw [if_pos (by omega), h3]
    rfl
theorem s_putR : cl_putR (SP l D cA a) := by
  intro z pc ls st M κ out nx p q r x ix k d h1 h2 h3 h4 h5 h6 h7 kp
  subst h2
  obtain ⟨hd, rfl, hv⟩ := dec h1 (by simp [ilen])
  refine sp2 ⟨rfl, rfl, rfl, rfl⟩ kp fun p e s m args below meth c R A H locs arr cells slots Q hF hK hR hS hb kk => ?_
  obtain ⟨hx, hbb, -, -, -, hown, hinit, hts, -⟩ := hF
  simp only [vld1, Bool.and_eq_true, decide_eq_true_eq] at hv
  obtain ⟨hm, hq⟩ := hv
  have hp := nf_lt hq
  have hw : (Cond.fieldLink (cn (oc z)) ix (tF (kd k) q).1 (tF (kd k) q).2.1 (tF (kd k) q).2.2.1).before args s = true := hts _ (frW_in _ (List.mem_map.mpr ⟨(oc z, ix, kd k, q), by simpa using hm, rfl⟩))
  have he := wld_get (cA := cA) (a := a) (M := M) (X := kX κ) h4
  rw [eE_obj (by omega)] at he
  obtain ⟨hty, hcn, hfin⟩ := fR_ok _ hp q hq (by omega)
  obtain ⟨hnar, hfit⟩ := fR_narrow hty (a d)
  rw [decide_eq_true h3] at hfin
  refine va_putF hx hbb hts (uw_in hp) (fT (kd k)) (fT_ok _ hp) (fN_ok _ hp) hown hK.1 hR.1 hR.2.1 hS k he (cl8_get _ hp) q hq hw (fun _ h => h) hfin (hinit h6) (by rw [hcn, h7]) (fT_ok _ hp q hq) hnar hfit (by simpa using hq) hd fun H1 locs1 hP1 hD1 hS1 => ?_
  refine kk H1 locs1 (hR.put hS hS1 hb h4 ?_ (fun j hj => stM_other _ _ _ _ hj) (fun _ _ => rfl) rfl rfl rfl hP1 hD1 (WF_st (Or.inr (by decide)))) hS1
  rw [eE_obj (by omega), stM_row, fs_set (g := fv a k (upd (M k) q 1)) (by unfold fv; rw [if_neg (by omega), if_neg (by simp [upd]), if_pos h3, h5]; rfl) (fun j hj => by unfold fv; simp [upd, hj])]
theorem s_putD : cl_putD (SP l D cA a) := by
  intro z pc ls st M κ out nx p q r x ix k d h1 h2 h3 h4 h5 h6 kp
  subst h2
  obtain ⟨hd, rfl, hv⟩ := dec h1 (by simp [ilen])
  refine sp2 ⟨rfl, rfl, rfl, rfl⟩ kp fun p e s m args below meth c R A H locs arr cells slots Q hF hK hR hS hb kk => ?_
  obtain ⟨hx, hbb, -, -, -, hown, hinit, hts, -⟩ := hF
  simp only [vld1, Bool.and_eq_true, decide_eq_true_eq] at hv
  obtain ⟨hm, hq⟩ := hv
  have hp := nf_lt hq
  have hw : (Cond.fieldLink (cn (oc z)) ix (tF (kd k) q).1 (tF (kd k) q).2.1 (tF (kd k) q).2.2.1).before args s = true := hts _ (frW_in _ (List.mem_map.mpr ⟨(oc z, ix, kd k, q), by simpa using hm, rfl⟩))
  have he := wld_get (cA := cA) (a := a) (M := M) (X := kX κ) h4
  rw [eE_obj (by omega)] at he
  obtain ⟨hty, hcn, hfin⟩ := fR_ok _ hp q hq (by omega)
  obtain ⟨hnar, hfit⟩ := fR_narrow hty (a d)
  rw [decide_eq_false (by omega)] at hfin
  have hnz : nI d ≠ 0 := nI_ne0 h5 (by omega)
  refine va_put hx hbb hts (uw_in hp) (fT (kd k)) (fT_ok _ hp) (fN_ok _ hp) hown hK.1 hR.1 hR.2.1 hS k he (cl8_get _ hp) q hq hw (fun _ h => h) hfin (fT_ok _ hp q hq) hnar hfit (by simpa using hq) hd fun H1 locs1 hP1 hD1 hS1 => ?_
  refine kk H1 locs1 (hR.put hS hS1 hb h4 ?_ (fun j hj => stM_other _ _ _ _ hj) (fun _ _ => rfl) rfl rfl rfl hP1 hD1 (WF_st (Or.inr hnz))) hS1
  rw [eE_obj (by omega), stM_row, fs_set (g := fv a k (upd (M k) q (nI d))) (by unfold fv; rw [if_neg (by omega), if_neg (by simpa [upd] using hnz), if_neg (by omega)]; simp [upd, nI_clamp (show d < 2 ^ 31 by omega)]; rfl) (fun j hj => by unfold fv; simp [upd, hj])]
theorem sref_arr {k j : Nat} (h : 20 ≤ kd k) (h2 : kd k ≠ 22) (h3 : kd k ≠ 23) : sref k j = false := by
  unfold sref
  rw [if_neg (by omega)]
  simp [h2, h3]
theorem s_iast : cl_iast (SP l D cA a) := by
  intro z pc ls st M κ out nx p q r x k b v h1 h2 h3 h4 kp
  obtain ⟨hd, rfl, hv⟩ := dec h1 (by simp [ilen])
  refine sp2 ⟨rfl, rfl, rfl, rfl⟩ kp fun p e s m args below meth c R A H locs arr cells slots Q hF hK hR hS hb kk => ?_
  have he := wld_get (cA := cA) (a := a) (M := M) (X := kX κ) h3
  have hE : ∀ f : Nat → Int32, ∀ x, eE cA a k f x = .inl (cA 20, ln k, .inl f) := fun f x => by unfold eE; rw [if_neg (by omega), if_pos h2]
  rw [hE] at he
  refine va_iast hF.1 hF.2.1 hK.1 hR.1 hR.2.1 hS k 0 he rfl h4 hd fun H1 locs1 hP1 hD1 hS1 => ?_
  refine kk H1 locs1 (hR.put hS hS1 hb h3 ?_ (fun j hj => stM_other _ _ _ _ hj) (fun _ _ => rfl) rfl rfl rfl hP1 hD1 (WF_st (Or.inl (sref_arr (by omega) (by omega) (by omega))))) hS1
  rw [hE, stM_row]
theorem s_zast : cl_zast (SP l D cA a) := by
  intro z pc ls st M κ out nx p q r x k b v h1 h2 h3 h4 h5 kp
  obtain ⟨hd, rfl, hv⟩ := dec h1 (by simp [ilen])
  refine sp2 ⟨rfl, rfl, rfl, rfl⟩ kp fun p e s m args below meth c R A H locs arr cells slots Q hF hK hR hS hb kk => ?_
  have he := wld_get (cA := cA) (a := a) (M := M) (X := kX κ) h3
  have hE : ∀ f : Nat → Int32, ∀ x, eE cA a k f x = .inl (cA 21, ln k, .inl f) := fun f x => by unfold eE; rw [if_neg (by omega), if_neg (by omega), if_pos h2]
  have hn : vp_nar .boolean v = v := by rcases isB_01 h5 with rfl | rfl <;> decide
  rw [hE] at he
  refine va_zast hF.1 hF.2.1 hK.1 hR.1 hR.2.1 hS k 1 he rfl h4 hd fun H1 locs1 hP1 hD1 hS1 => ?_
  rw [hn] at hP1 hD1
  refine kk H1 locs1 (hR.put hS hS1 hb h3 ?_ (fun j hj => stM_other _ _ _ _ hj) (fun _ _ => rfl) rfl rfl rfl hP1 hD1 (WF_st (Or.inl (sref_arr (by omega) (by omega) (by omega))))) hS1
  rw [hE, stM_row]
theorem s_aast : cl_aast (SP l D cA a) := by
  intro z pc ls st M κ out nx p q r x k d b h1 h2 h3 h4 h5 h6 h7 kp
  obtain ⟨hd, rfl, hv⟩ := dec h1 (by simp [ilen])
  refine sp2 ⟨rfl, rfl, rfl, rfl⟩ kp fun p e s m args below meth c R A H locs arr cells slots Q hF hK hR hS hb kk => ?_
  have he := wld_get (cA := cA) (a := a) (M := M) (X := kX κ) h3
  have hg := wld_get (cA := cA) (a := a) (M := M) (X := kX κ) h4
  have her : va_up (er a k (M k)) b.toNatClampNeg (some (a d)) = er a k (stM M k b.toNatClampNeg 1 k) := by
    rw [stM_row]
    funext j
    unfold va_up er upd
    by_cases hj : j = b.toNatClampNeg
    · subst hj
      simp [h6]
    · simp [hj]
  rcases h2 with h2 | h2
  · rw [if_pos h2] at h7
    have hE : ∀ f : Nat → Int32, ∀ x, eE cA a k f x = .inl (cA 22, 6, .inr (.inr (.inr (.inr (er a k f))))) := fun f x => by unfold eE; rw [if_neg (by omega), if_neg (by omega), if_neg (by omega), if_pos h2]
    rw [hE] at he
    rw [eE_obj (by omega), h7] at hg
    refine va_astq hF.1 hF.2.1 hK.1 hR.1 hR.2.1 hS k 2 d 0 (r := ("BundleMill$Block", tF_0, 12)) he rfl hg rfl h5 hd fun H1 locs1 hP1 hD1 hS1 => ?_
    rw [her] at hP1 hD1
    refine kk H1 locs1 (hR.put hS hS1 hb h3 ?_ (fun j hj => stM_other _ _ _ _ hj) (fun _ _ => rfl) rfl rfl rfl hP1 hD1 (WF_st (Or.inr (by decide)))) hS1
    rw [hE]
  · rw [if_neg (by omega)] at h7
    have hE : ∀ f : Nat → Int32, ∀ x, eE cA a k f x = .inl (cA 23, 6, .inr (.inr (.inr (.inr (er a k f))))) := fun f x => by unfold eE; rw [if_neg (by omega), if_neg (by omega), if_neg (by omega), if_neg (by omega), if_pos h2]
    rw [hE] at he
    rw [eE_obj (by omega), h7] at hg
    refine va_astq hF.1 hF.2.1 hK.1 hR.1 hR.2.1 hS k 3 d 5 (r := ("BundleMill$Plan", tF_5, 8)) he rfl hg rfl h5 hd fun H1 locs1 hP1 hD1 hS1 => ?_
    rw [her] at hP1 hD1
    refine kk H1 locs1 (hR.put hS hS1 hb h3 ?_ (fun j hj => stM_other _ _ _ _ hj) (fun _ _ => rfl) rfl rfl rfl hP1 hD1 (WF_st (Or.inr (by decide)))) hS1
    rw [hE]
theorem s_last : cl_last (SP l D cA a) := by
  intro z pc ls st M κ out nx p q r x k b v h1 h2 h3 h4 kp
  obtain ⟨hd, rfl, hv⟩ := dec h1 (by simp [ilen])
  refine sp2 (κ' := (κ.1, stX (kX κ) k v.toUInt64, κ.2.2)) ⟨rfl, rfl, rfl, rfl⟩ kp fun p e s m args below meth c R A H locs arr cells slots Q hF hK hR hS hb kk => ?_
  have he := wld_get (cA := cA) (a := a) (M := M) (X := kX κ) h3
  have h0 : b.toNatClampNeg = 0 := by
    have : b.toNatClampNeg < 1 := Nat.not_le.mp fun q => h4 (Or.inr q)
    omega
  have hE : ∀ f : Nat → Int32, ∀ x : UInt64, eE cA a k f x = .inl (cA 24, 1, .inr (.inl (fun j => if j = 0 then x.toInt64 else 0))) := fun f x => by unfold eE; rw [if_neg (by omega), if_neg (by omega), if_neg (by omega), if_neg (by omega), if_neg (by omega), if_pos h2]
  rw [hE] at he
  refine va_last hF.1 hF.2.1 hK.1 hR.1 hR.2.1 hS k 4 he rfl h4 hd fun H1 locs1 hP1 hD1 hS1 => ?_
  refine kk H1 locs1 (hR.put hS hS1 hb h3 ?_ (fun _ _ => rfl) (fun j hj => stX_other _ _ _ hj) rfl rfl rfl hP1 hD1 id) hS1
  rw [hE, show kX (κ.1, stX (kX κ) k v.toUInt64, κ.2.2) k = v.toUInt64 from stX_row _ _ _]
  congr 5
  funext j
  unfold vp_updL
  rw [h0]
  by_cases hj : j = 0
  · simp [hj]
  · simp [hj]
theorem s_dast : cl_dast (SP l D cA a) := by
  intro z pc ls st M κ out nx p q r x k b v h1 h2 h3 h4 kp
  obtain ⟨hd, rfl, hv⟩ := dec h1 (by simp [ilen])
  refine sp2 (κ' := (κ.1, stX (kX κ) k v, κ.2.2)) ⟨rfl, rfl, rfl, rfl⟩ kp fun p e s m args below meth c R A H locs arr cells slots Q hF hK hR hS hb kk => ?_
  have he := wld_get (cA := cA) (a := a) (M := M) (X := kX κ) h3
  have h0 : b.toNatClampNeg = 0 := by
    have : b.toNatClampNeg < 1 := Nat.not_le.mp fun q => h4 (Or.inr q)
    omega
  have hE : ∀ f : Nat → Int32, ∀ x : UInt64, eE cA a k f x = .inl (cA 25, 1, .inr (.inr (.inr (.inl (fun j => if j = 0 then x else 0))))) := fun f x => by unfold eE; rw [if_neg (by omega), if_neg (by omega), if_neg (by omega), if_neg (by omega), if_neg (by omega), if_neg (by omega)]
  rw [hE] at he
  refine va_dast hF.1 hF.2.1 hK.1 hR.1 hR.2.1 hS k 5 he rfl h4 hd fun H1 locs1 hP1 hD1 hS1 => ?_
  refine kk H1 locs1 (hR.put hS hS1 hb h3 ?_ (fun _ _ => rfl) (fun j hj => stX_other _ _ _ hj) rfl rfl rfl hP1 hD1 id) hS1
  rw [hE, show kX (κ.1, stX (kX κ) k v, κ.2.2) k = v from stX_row _ _ _]
  congr 7
  funext j
  unfold vf_upd
  rw [h0]
  by_cases hj : j = 0
  · simp [hj]
  · simp [hj]
/-! returns -/
theorem RW.warm {M : Mem} {κ : Kp} {A : Nat → Prop} {s t : State} {H : Heap} (h : RW D cA a M κ A s H) (hvm : s.vm.Alike t.vm) : RW D cA a M κ A t H := ⟨h.1, h.2.1, va_X.moved hvm h.2.2.1, h.2.2.2⟩
theorem s_iret : cl_iret (SP l D cA a) := by
  intro z pc ls st M κ out nx p q r x v h1 h2
  obtain ⟨hd, -, -⟩ := dec h1 (by simp [ilen])
  refine ⟨⟨Nat.le_refl _, Nat.le_refl _, fun h => ⟨h, rfl⟩⟩, fun p e s m args below meth c hF A hK hA hb H locs arr cells slots mc ms hR hS hL hc hu hz => ?_⟩
  obtain ⟨hx, hbb, -, hr, hlk, -⟩ := hF
  have e1 : cells = mc := Nat.add_right_cancel (m := kC κ) hc
  have e2 : slots = ms := Nat.add_right_cancel (m := kU κ) hu
  subst e1; subst e2
  have hq : ∀ t : State, t.heap = H → s.WarmedH t.vm → QcM D cA a (.inl (some (.int v)), M, κ) A args s (.returned (some (.int v))) t := fun t ht hW => ⟨⟨_, rfl, rfl⟩, by rw [ht]; exact hR.warm hW.alike, hS.F ht⟩
  rcases h2 with h2 | ⟨h2, h3⟩
  · exact vx_ret (W.iret hx hbb (hr.trans h2) hq hS.2.2 hd hlk)
  · exact vx_ret (W.zret hx hbb (hr.trans h2) (by rcases isB_01 h3 with rfl | rfl <;> decide) hq hS.2.2 hd hlk)
theorem s_lret : cl_lret (SP l D cA a) := by
  intro z pc ls st M κ out nx p q r x v h1 h2
  obtain ⟨hd, -, -⟩ := dec h1 (by simp [ilen])
  refine ⟨⟨Nat.le_refl _, Nat.le_refl _, fun h => ⟨h, rfl⟩⟩, fun p e s m args below meth c hF A hK hA hb H locs arr cells slots mc ms hR hS hL hc hu hz => ?_⟩
  obtain ⟨hx, hbb, -, hr, hlk, -⟩ := hF
  have e1 : cells = mc := Nat.add_right_cancel (m := kC κ) hc
  have e2 : slots = ms := Nat.add_right_cancel (m := kU κ) hu
  subst e1; subst e2
  exact vx_ret (W.lret hx hbb (hr.trans h2) (fun t ht hW => ⟨⟨_, rfl, rfl⟩, by rw [ht]; exact hR.warm hW.alike, hS.F ht⟩) hS.2.2 hd hlk)
theorem s_dret : cl_dret (SP l D cA a) := by
  intro z pc ls st M κ out nx p q r x v h1 h2
  obtain ⟨hd, -, -⟩ := dec h1 (by simp [ilen])
  refine ⟨⟨Nat.le_refl _, Nat.le_refl _, fun h => ⟨h, rfl⟩⟩, fun p e s m args below meth c hF A hK hA hb H locs arr cells slots mc ms hR hS hL hc hu hz => ?_⟩
  obtain ⟨hx, hbb, -, hr, hlk, -⟩ := hF
  have e1 : cells = mc := Nat.add_right_cancel (m := kC κ) hc
  have e2 : slots = ms := Nat.add_right_cancel (m := kU κ) hu
  subst e1; subst e2
  exact vx_ret (W.dret hx hbb (hr.trans h2) (fun t ht hW => ⟨⟨_, rfl, rfl⟩, by rw [ht]; exact hR.warm hW.alike, hS.F ht⟩) hS.2.2 hd hlk)
theorem s_vret : cl_vret (SP l D cA a) := by
  intro z pc ls st M κ out nx p q r x h1 h2
  obtain ⟨hd, -, -⟩ := dec h1 (by simp [ilen])
  refine ⟨⟨Nat.le_refl _, Nat.le_refl _, fun h => ⟨h, rfl⟩⟩, fun p e s m args below meth c hF A hK hA hb H locs arr cells slots mc ms hR hS hL hc hu hz => ?_⟩
  obtain ⟨hx, hbb, -, hr, hlk, -⟩ := hF
  have e1 : cells = mc := Nat.add_right_cancel (m := kC κ) hc
  have e2 : slots = ms := Nat.add_right_cancel (m := kU κ) hu
  subst e1; subst e2
  exact vx_ret (W.vret hx hbb (hr.trans h2) (fun t ht hW => ⟨⟨_, rfl, rfl⟩, by rw [ht]; exact hR.warm hW.alike, hS.F ht⟩) hS.2.2 hd hlk)
end SND3
