/-! SOUNDNESS, 4: the clauses that make objects -/
section SND4
variable {l : Launch} {D : va_G} {cA : Nat → ClassId} {a : Nat → Nat}
theorem hsize (ha : ∀ n, n < 180 → a (n + 1) = a n + 1) {M : Mem} {κ : Kp} {A : Nat → Prop} {s : State} {H : Heap} {locs : List Loc} {cells : Nat} (hR : RW D cA a M κ A s H) (hS : va_S A s.heap H locs) (hz : s.heap.size + cells = a (kN κ) ∧ (kN κ = 0 → cells = 0)) (hub : H.size ≤ s.heap.size + cells) : H.size = a (kN κ) := by
  obtain ⟨h1, h2⟩ := hz
  rcases Nat.eq_zero_or_pos (kN κ) with h0 | h0
  · have := h2 h0
    have h3 := hS.1
    omega
  · obtain ⟨n, hn⟩ : ∃ n, kN κ = n + 1 := ⟨kN κ - 1, by omega⟩
    have h3 := (hR.1 n _ (wld_get (by omega))).lt
    have h4 := ha n (by have := hR.2.2.2.2.2; omega)
    rw [hn, h4] at h1 ⊢
    dsimp only at h3
    omega
theorem dv_ok : ∀ c, c < 8 → ∀ j, j < nf c → defaultValue (fT c j) = if fty c j = 0 then .int 0 else .null := by decide +kernel
/-- the world with one object more -/
theorem RW.push {M : Mem} {κ κ' : Kp} {A : Nat → Prop} {s : State} {H H1 : Heap} {locs : List Loc} (hR : RW D cA a M κ A s H) (hS : va_S A s.heap H locs) (hb : a 999 < s.heap.size) (hA : ∀ q, s.heap.size ≤ q → A q) (hsz : H.size = a (kN κ)) (z1 : H1.size = a (kN κ) + 1) (o1 : ∀ q, q < a (kN κ) → H1[q]? = H[q]?)
    (he : va_at D cl8 (a (kN κ), eE cA a (kN κ) (M (kN κ)) (kX κ (kN κ))) H1) (hn : kN κ < 180) (hr : kR κ = false) (e1 : kN κ' = kN κ + 1) (e2 : kR κ' = kR κ) (e3 : kL κ' = kL κ) (e4 : kX κ' = kX κ) : RW D cA a M κ' A s H1 ∧ va_S A s.heap H1 locs := by
  obtain ⟨r1, r2, r3, r4, r5, r6⟩ := hR
  have hk : ∀ (k : Nat) (x : Nat × va_E), (wld cA a M (kX κ) (kN κ))[k]? = some x → H1[x.1]? = H[x.1]? := fun k x hx => o1 x.1 (by rw [← hsz]; exact (r1 k x hx).lt)
  have hP := (r1.kept hk).app (w2 := [(a (kN κ), eE cA a (kN κ) (M (kN κ)) (kX κ (kN κ)))]) (fun k x hx => by
    have hz : k < 1 := (List.getElem?_eq_some_iff.mp hx).1
    rw [show k = 0 by omega] at hx
    cases hx
    exact he)
  have hD := r2.push (e := eE cA a (kN κ) (M (kN κ)) (kX κ (kN κ))) r1 hsz.symm (hA _ (by rw [← hsz]; exact hS.1))
  rw [wld_push] at hP hD
  refine ⟨⟨by rw [e1, e4]; exact hP, by rw [e1, e4]; exact hD, ?_, r4, fun h => ?_, by omega⟩, ⟨Nat.le_trans hS.1 (by omega), fun x h1 h2 => (o1 x (by rw [← hsz]; exact Nat.lt_of_lt_of_le h1 hS.1)).trans (hS.2.1 x h1 h2), hS.2.2⟩⟩
  · rw [e3]
    exact r3.kept (o1 _ (by rw [← hsz]; exact Nat.lt_of_lt_of_le hb hS.1))
  · rw [e2, hr] at h
    cases h
/-- the frame of the three clauses -/
theorem sp3 (ha : ∀ n, n < 180 → a (n + 1) = a n + 1) {z pc nx u : Nat} {ls st st' : List Value} {M : Mem} {κ : Kp} {out : Ou} (hr : kR κ = false) (hn : kN κ < 180)
    (k : SP l D cA a z (nx, ls, st', M, (κ.1, κ.2.1, κ.2.2.1, kN κ + 1, kC κ + 1, kU κ + u)) out)
    (row : ∀ (p : Program) (e : Env) (s : State) (m : MethodId) (args : Array Value) (below : List Frame) (meth : Method) (c : Code) (R : Room) (A : Nat → Prop) (H : Heap) (locs : List Loc) (arr : Array Slot) (cells slots : Nat) (Q : State → Prop), FX z p l s m args meth c → KS D cA s A → RW D cA a M κ A s H → H.size = a (kN κ) → cells + 1 ≤ R.cells → slots + u ≤ R.slots →
      (∀ H1 : Heap, H1.size = a (kN κ) + 1 → (∀ q, q < a (kN κ) → H1[q]? = H[q]?) → va_at D cl8 (a (kN κ), eE cA a (kN κ) (M (kN κ)) (kX κ (kN κ))) H1 → W p l e R s m args below meth c H1 locs (cells + 1) (slots + u) Q (F0 m nx arr (st'.map (mv a)))) → W p l e R s m args below meth c H locs cells slots Q (F0 m pc arr (st.map (mv a)))) : SP l D cA a z (pc, ls, st, M, κ) out := by
  obtain ⟨⟨k1, k2, k3⟩, k4⟩ := k
  dsimp only [kC, kU, kN, kR] at k1 k2 k3
  refine ⟨⟨?_, ?_, fun h => ?_⟩, fun p e s m args below meth c hF A hK hA hb H locs arr cells slots mc ms hR hS hL hc hu hz => ?_⟩
  · dsimp only [kC]
    omega
  · dsimp only [kU]
    omega
  · dsimp only [kC, kN, kR] at h ⊢
    obtain ⟨q1, q2⟩ := k3 h
    exact ⟨q1, by omega⟩
  · dsimp only [kC, kU] at hc hu
    intro T hT X
    have hub : H.size ≤ s.heap.size + cells := by rw [← hT]; exact X.heapSize
    have hsz := hsize ha hR hS (hz hr) hub
    refine row p e s m args below meth c _ A H locs arr cells slots _ hF hK hR hsz (show cells + 1 ≤ mc by omega) (show slots + u ≤ ms by omega) (fun H1 z1 o1 he => ?_) T hT X
    obtain ⟨hR1, hS1⟩ := hR.push (κ' := (κ.1, κ.2.1, κ.2.2.1, kN κ + 1, kC κ + 1, kU κ + u)) hS hb hA hsz z1 o1 he hn hr rfl rfl rfl rfl
    refine k4 p e s m args below meth c hF A hK hA hb H1 locs arr (cells + 1) (slots + u) mc ms hR1 hS1 hL ?_ ?_ (fun q => ?_)
    · dsimp only [kC]
      omega
    · dsimp only [kU]
      omega
    · dsimp only [kN]
      obtain ⟨q1, -⟩ := hz hr
      dsimp only at q1
      rw [ha _ hn]
      exact ⟨by omega, fun q => by omega⟩
theorem s_new (ha : ∀ n, n < 180 → a (n + 1) = a n + 1) : cl_new (SP l D cA a) := by
  intro z pc ls st M κ out nx p q r x ix h1 h2 h3 h4 h5 h6 kp
  subst h4
  obtain ⟨hd, rfl, hv⟩ := dec h1 (by simp [ilen])
  have hn : kN κ < 180 := kd_lt (by omega)
  refine sp3 ha h3 hn kp fun p e s m args below meth c R A H locs arr cells slots Q hF hK hR hsz hcl hsl kk => ?_
  obtain ⟨hx, hbb, -, -, -, hown, -, hts, -⟩ := hF
  simp only [vld1, h2] at hv
  have hm : (oc z, ix, kd (kN κ)) ∈ clrL := by simpa using hv
  have hp : kd (kN κ) < 8 := by omega
  have hKn := hK.1.1 _ _ (cl8_get _ hp)
  have hin := fun w hw => inW_in w (List.mem_flatMap.mpr ⟨kd (kN κ), List.mem_range.mpr hp, hw⟩)
  refine W.newcK hx hbb hown (hts _ (clW_in _ (List.mem_map.mpr ⟨_, hm, rfl⟩))) (hts _ (hin _ List.mem_cons_self)) (hts _ (hin _ (List.mem_cons_of_mem _ List.mem_cons_self))) rfl hd hcl hsl hKn.2.1 hsz fun H1 kC hkC e1 z1 o1 => ?_
  refine kk H1 z1 o1 ?_
  rw [eE_obj h5]
  refine ⟨_, cl8_get _ hp, (u_born (fT (kd (kN κ))) hts (uw_in hp) hKn hkC e1 (fT_ok _ hp)).to fun j hj => ?_⟩
  rw [dv_ok _ hp j hj]
  unfold vp_V
  dsimp only
  rw [List.getD_eq_getElem?_getD, fs_get hj]
  unfold fv
  rw [h6 j]
  by_cases h0 : fty (kd (kN κ)) j = 0
  · rw [if_pos h0]
    simp [h0]
  · rw [if_neg h0]
    simp [h0]
theorem s_newa (ha : ∀ n, n < 180 → a (n + 1) = a n + 1) : cl_newa (SP l D cA a) := by
  intro z pc ls st M κ out nx p q r x t n h1 h2 h3 h4 h5 h6 h7 h8 h9 h10 kp
  subst h3
  obtain ⟨hd, rfl, hv⟩ := dec h1 (by simp [ilen])
  have hk99 : kd (kN κ) ≠ 99 := by
    intro h99
    simp only [vld1, beq_iff_eq] at hv
    rw [h99] at hv
    cases t <;> simp at hv
  have hn : kN κ < 180 := kd_lt hk99
  have hlen : ln (kN κ) ≤ 200 := by
    have : ∀ k, k < 180 → ln k ≤ 200 := by decide +kernel
    exact this _ hn
  have hl1 : 24 ≤ kd (kN κ) → ln (kN κ) = 1 := by
    have : ∀ k, k < 180 → 24 ≤ kd k → ln k = 1 := by decide +kernel
    exact this _ hn
  refine sp3 ha h2 hn kp fun p e s m args below meth c R A H locs arr cells slots Q hF hK hR hsz hcl hsl kk => ?_
  obtain ⟨hx, hbb, -, -, -, hown, -, hts, -⟩ := hF
  have hbytes : ln (kN κ) * componentBytes (newarray.typeOf t) ≤ 536870912 := by
    have : componentBytes (newarray.typeOf t) ≤ 8 := by cases t <;> decide
    calc ln (kN κ) * componentBytes (newarray.typeOf t) ≤ 200 * 8 := Nat.mul_le_mul hlen this
      _ ≤ 536870912 := by omega
  have hin : ∀ w ∈ arW, w.before args s = true := fun w hw => hts w (arW_in w hw)
  have hz : (fun j => M (kN κ) j) = fun _ => 0 := funext h9
  simp only [vld1, beq_iff_eq] at hv
  cases t with
  | int =>
    simp only at hv
    refine va_newaK (atype := .int) (N := ln (kN κ)) hx hbb (hin (.arrayClass .int) List.mem_cons_self) rfl hd rfl h8 h7 hbytes hcl hsl hsz fun H1 c1 e1 z1 o1 hAr hNm => ?_
    have hc1 : c1 = cA 20 := Option.some.inj (hNm.symm.trans (hK.1.2 0 _ rfl).2)
    refine kk H1 z1 o1 ?_
    have hE : eE cA a (kN κ) (M (kN κ)) (kX κ (kN κ)) = .inl (cA 20, ln (kN κ), .inl (M (kN κ))) := by unfold eE; rw [if_neg (by omega), if_pos hv]
    rw [hE]
    show H1[a (kN κ)]? = some (vp_cell (cA 20) _)
    rw [vp_cell_i, e1, hc1, show M (kN κ) = fun _ => 0 from hz]
    rfl
  | boolean =>
    simp only at hv
    refine va_newaK (atype := .boolean) (N := ln (kN κ)) hx hbb (hin (.arrayClass .boolean) (List.mem_cons_of_mem _ List.mem_cons_self)) rfl hd rfl h8 h7 hbytes hcl hsl hsz fun H1 c1 e1 z1 o1 hAr hNm => ?_
    have hc1 : c1 = cA 21 := Option.some.inj (hNm.symm.trans (hK.1.2 1 _ rfl).2)
    refine kk H1 z1 o1 ?_
    have hE : eE cA a (kN κ) (M (kN κ)) (kX κ (kN κ)) = .inl (cA 21, ln (kN κ), .inl (M (kN κ))) := by unfold eE; rw [if_neg (by omega), if_neg (by omega), if_pos hv]
    rw [hE]
    show H1[a (kN κ)]? = some (vp_cell (cA 21) _)
    rw [vp_cell_i, e1, hc1, show M (kN κ) = fun _ => 0 from hz]
    rfl
  | long =>
    simp only at hv
    refine va_newaK (atype := .long) (N := ln (kN κ)) hx hbb (hin (.arrayClass .long) (List.mem_cons_of_mem _ (List.mem_cons_of_mem _ List.mem_cons_self))) rfl hd rfl h8 h7 hbytes hcl hsl hsz fun H1 c1 e1 z1 o1 hAr hNm => ?_
    have hc1 : c1 = cA 24 := Option.some.inj (hNm.symm.trans (hK.1.2 4 _ rfl).2)
    refine kk H1 z1 o1 ?_
    have hE : eE cA a (kN κ) (M (kN κ)) (kX κ (kN κ)) = .inl (cA 24, 1, .inr (.inl (fun j => if j = 0 then (kX κ (kN κ)).toInt64 else 0))) := by unfold eE; rw [if_neg (by omega), if_neg (by omega), if_neg (by omega), if_neg (by omega), if_neg (by omega), if_pos hv]
    rw [hE]
    show H1[a (kN κ)]? = some (vp_cell (cA 24) _)
    rw [vp_cell_l, e1, hc1, h10 (by omega), hl1 (by omega)]
    have : (fun j : Nat => Value.long (if j = 0 then (0 : UInt64).toInt64 else 0)) = fun _ => defaultValue .long := by
      funext j
      by_cases hj : j = 0 <;> simp [hj] <;> rfl
    rw [this]
    rfl
  | double =>
    simp only at hv
    refine va_newaK (atype := .double) (N := ln (kN κ)) hx hbb (hin (.arrayClass .double) (List.mem_cons_of_mem _ (List.mem_cons_of_mem _ (List.mem_cons_of_mem _ List.mem_cons_self)))) rfl hd rfl h8 h7 hbytes hcl hsl hsz fun H1 c1 e1 z1 o1 hAr hNm => ?_
    have hc1 : c1 = cA 25 := Option.some.inj (hNm.symm.trans (hK.1.2 5 _ rfl).2)
    refine kk H1 z1 o1 ?_
    have hE : eE cA a (kN κ) (M (kN κ)) (kX κ (kN κ)) = .inl (cA 25, 1, .inr (.inr (.inr (.inl (fun j => if j = 0 then kX κ (kN κ) else 0))))) := by unfold eE; rw [if_neg (by omega), if_neg (by omega), if_neg (by omega), if_neg (by omega), if_neg (by omega), if_neg (by omega)]
    rw [hE]
    show H1[a (kN κ)]? = some (vp_cell (cA 25) _)
    rw [vp_cell_d, e1, hc1, h10 (by omega), hl1 (by omega)]
    have : (fun j : Nat => Value.double (if j = 0 then (0 : UInt64) else 0)) = fun _ => defaultValue .double := by
      funext j
      by_cases hj : j = 0 <;> simp [hj] <;> rfl
    rw [this]
    rfl
  | _ => (simp only at hv; omega)
theorem s_anew (ha : ∀ n, n < 180 → a (n + 1) = a n + 1) : cl_anew (SP l D cA a) := by
  intro z pc ls st M κ out nx p q r x ix h1 h2 h3 h4 h5 kp
  subst h3
  obtain ⟨hd, rfl, hv⟩ := dec h1 (by simp [ilen])
  have hn : kN κ < 180 := kd_lt (by omega)
  refine sp3 ha h2 hn kp fun p e s m args below meth c R A H locs arr cells slots Q hF hK hR hsz hcl hsl kk => ?_
  obtain ⟨hx, hbb, -, -, -, hown, -, hts, -⟩ := hF
  simp only [vld1] at hv
  obtain ⟨-, -, -, -, ao1, ao2⟩ := hK.2.1
  have hz : ∀ j, er a (kN κ) (M (kN κ)) j = none := fun j => by unfold er; rw [h5 j]; rfl
  rcases h4 with h4 | h4
  · rw [if_pos h4] at hv
    have hm : (oc z, ix, 0) ∈ clrL := by simpa using hv
    refine W.anew hx hbb (C := "BundleMill$Block") hown (hts _ (clW_in _ (List.mem_map.mpr ⟨_, hm, rfl⟩))) (va_AO.use ao1) rfl hd (n := 6) rfl (by decide) (by decide) hcl hsl fun c1 kA comp f1 f2 f3 f4 => ?_
    have hc1 : c1 = cA 22 := by
      obtain ⟨_, _, _, _, _, g4⟩ := (hK.1.2 2 _ rfl).2
      exact Option.some.inj (f1.symm.trans g4)
    rw [hsz]
    refine kk _ (by rw [Array.size_push, hsz]) (fun q hq => by rw [Array.getElem?_push, if_neg (by omega)]) ?_
    have hE : eE cA a (kN κ) (M (kN κ)) (kX κ (kN κ)) = .inl (cA 22, 6, .inr (.inr (.inr (.inr (er a (kN κ) (M (kN κ))))))) := by unfold eE; rw [if_neg (by omega), if_neg (by omega), if_neg (by omega), if_pos h4]
    rw [hE]
    show _ = some (vp_cell (cA 22) _)
    rw [vp_cell_q, ← hsz, Array.getElem?_push_size, hc1, arrV_new]
    simp only [hz]
    rfl
  · rw [if_neg (by omega)] at hv
    have hm : (oc z, ix, 5) ∈ clrL := by simpa using hv
    refine W.anew hx hbb (C := "BundleMill$Plan") hown (hts _ (clW_in _ (List.mem_map.mpr ⟨_, hm, rfl⟩))) (va_AO.use ao2) rfl hd (n := 6) rfl (by decide) (by decide) hcl hsl fun c1 kA comp f1 f2 f3 f4 => ?_
    have hc1 : c1 = cA 23 := by
      obtain ⟨_, _, _, _, _, g4⟩ := (hK.1.2 3 _ rfl).2
      exact Option.some.inj (f1.symm.trans g4)
    rw [hsz]
    refine kk _ (by rw [Array.size_push, hsz]) (fun q hq => by rw [Array.getElem?_push, if_neg (by omega)]) ?_
    have hE : eE cA a (kN κ) (M (kN κ)) (kX κ (kN κ)) = .inl (cA 23, 6, .inr (.inr (.inr (.inr (er a (kN κ) (M (kN κ))))))) := by unfold eE; rw [if_neg (by omega), if_neg (by omega), if_neg (by omega), if_neg (by omega), if_pos h4]
    rw [hE]
    show _ = some (vp_cell (cA 23) _)
    rw [vp_cell_q, ← hsz, Array.getElem?_push_size, hc1, arrV_new]
    simp only [hz]
    rfl
end SND4
