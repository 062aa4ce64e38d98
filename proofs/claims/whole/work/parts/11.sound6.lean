/-! SOUNDNESS, 6: the calls -/
section SND6
variable {l : Launch} {D : va_G} {cA : Nat → ClassId} {a : Nat → Nat}
theorem m164 : ∀ m ∈ mrL, 164 ≤ m.2.2.1 → m.2.2.2 = 1 := by decide +kernel
theorem s_mmax : cl_mmax (SP l D cA a) := by
  intro z pc ls st M κ out i nx q r x b c h1 h2 h3 h4 k
  obtain ⟨hd, rfl, hm, hk, hr, hf, hl⟩ := inv_row h1 (by omega) h3
  have hq : q = 1 := m164 _ hm (Nat.le_refl _)
  subst hq
  have hi : i = .invokestatic (ia i) := (inv_of (by omega)).2.2.2.1 h2
  refine ⟨k.1, fun p e s m args below meth c0 hF A hK hA hb H locs arr cells slots mc ms hR hS hL hc hu hz => ?_⟩
  obtain ⟨hx, hbb, hml, -, -, hown, -, hts, -⟩ := id hF
  have hw : ∀ w ∈ mrw (oc z, ia i, 164, 1), w.before args s = true := fun w hw => hts w (mrW_in w (List.mem_flatMap.mpr ⟨_, hm, hw⟩))
  have hcw : cw 164 = Cond.code Lib.Math.max.name Lib.Math.max.code 2 (some .int) := by decide +kernel
  have hyn : yN 164 = Lib.Math.max.name := by decide +kernel
  have hrl : 20 ≤ rl z := by
    have e1 : mL 164 = 2 := by decide
    have e2 : rl 164 = 0 := by decide
    omega
  refine va_mmax hx hbb (hml.trans hL.2.1.symm) (own := cn (oc z)) (index := ia i) hown ?_ ?_ ?_ ?_ (show 1 ≤ rf z by omega) (show _ + 13 ≤ rl z from ?_) (show cells ≤ mc from ?_) (show slots ≤ ms from ?_) (by rw [hi] at hd; exact hd) ?_
  · exact hw _ (by rw [← hyn]; exact List.mem_cons_self)
  · exact hw _ (by rw [← hyn]; exact List.mem_cons_of_mem _ List.mem_cons_self)
  · exact hw _ (by exact List.mem_cons_of_mem _ (List.mem_cons_of_mem _ List.mem_cons_self))
  · exact hts _ (by rw [← hcw]; exact cwa_u166 164 (by decide))
  · have h4' : ((st.map (mv a)).map fun v => v.category).sum ≤ 4 := by rw [mv_cats]; exact h4
    exact Nat.le_trans (Nat.add_le_add_right h4' 13) (by omega)
  · have := k.1.1
    dsimp only at this hc ⊢
    omega
  · have := k.1.2.1
    dsimp only at this hu ⊢
    omega
  · exact k.2 p e s m args below meth c0 hF A hK hA hb H locs arr cells slots mc ms hR hS hL hc hu hz
theorem s_mabs : cl_mabs (SP l D cA a) := by
  intro z pc ls st M κ out i nx q r x b h1 h2 h3 h4 k
  obtain ⟨hd, rfl, hm, hk, hr, hf, hl⟩ := inv_row h1 (by omega) h3
  have hq : q = 1 := m164 _ hm (Nat.le_succ _)
  subst hq
  have hi : i = .invokestatic (ia i) := (inv_of (by omega)).2.2.2.1 h2
  refine ⟨k.1, fun p e s m args below meth c0 hF A hK hA hb H locs arr cells slots mc ms hR hS hL hc hu hz => ?_⟩
  obtain ⟨hx, hbb, hml, -, -, hown, -, hts, -⟩ := id hF
  have hw : ∀ w ∈ mrw (oc z, ia i, 165, 1), w.before args s = true := fun w hw => hts w (mrW_in w (List.mem_flatMap.mpr ⟨_, hm, hw⟩))
  have hcw : cw 165 = Cond.code Lib.Math.abs.name Lib.Math.abs.code 1 (some .int) := by decide +kernel
  have hyn : yN 165 = Lib.Math.abs.name := by decide +kernel
  have hrl : 20 ≤ rl z := by
    have e1 : mL 165 = 1 := by decide
    have e2 : rl 165 = 0 := by decide
    omega
  refine va_mabs hx hbb (hml.trans hL.2.1.symm) (own := cn (oc z)) (index := ia i) hown ?_ ?_ ?_ ?_ (show 1 ≤ rf z by omega) (show _ + 13 ≤ rl z from ?_) (show cells ≤ mc from ?_) (show slots ≤ ms from ?_) (by rw [hi] at hd; exact hd) ?_
  · exact hw _ (by rw [← hyn]; exact List.mem_cons_self)
  · exact hw _ (by rw [← hyn]; exact List.mem_cons_of_mem _ List.mem_cons_self)
  · exact hw _ (by exact List.mem_cons_of_mem _ (List.mem_cons_of_mem _ List.mem_cons_self))
  · exact hts _ (by rw [← hcw]; exact cwa_u166 165 (by decide))
  · have h4' : ((st.map (mv a)).map fun v => v.category).sum ≤ 4 := by rw [mv_cats]; exact h4
    exact Nat.le_trans (Nat.add_le_add_right h4' 13) (by omega)
  · have := k.1.1
    dsimp only at this hc ⊢
    omega
  · have := k.1.2.1
    dsimp only at this hu ⊢
    omega
  · exact k.2 p e s m args below meth c0 hF A hK hA hb H locs arr cells slots mc ms hR hS hL hc hu hz
theorem stk_v {k : Nat} {as rest : List Value} : (((.ref k :: as : List Value).reverse ++ rest).map (mv a)) = (as.map (mv a)).reverse ++ .ref (a k) :: rest.map (mv a) := by
  simp [mv]
theorem stk_s {av rest : List Value} : ((av.reverse ++ rest).map (mv a)) = (av.map (mv a)).reverse ++ rest.map (mv a) := by
  simp
/-- a virtual call's words -/
theorem cwv_of {z y : Nat} {i : Instr} {s : State} {args : Array Value} {R : Room} {mc ms : Nat} (hts : ∀ w ∈ GW, w.before args s = true) (hy : y < 164) (hm : (oc z, ia i, y, 0) ∈ mrL) (hf : rf y + 1 ≤ R.frames) (hl : 8 + (mL y + 11) + rl y ≤ R.locals) :
    CallW R s args (cn (oc z)) (cn (oc y)) (ia i) (yN y) (cc y) (mL y) (rt y) (cw y :: GW) { frames := rf y, cells := mc, slots := ms, locals := rl y } mc ms (ag y) := by
  obtain ⟨-, m2, -⟩ := m_ok _ hm
  obtain ⟨-, y2, y3, y4⟩ := y_ok y hy
  have hh0 : hh y = [] := by
    rcases Classical.em (hh y = []) with h | h
    · exact h
    · exact absurd (m2.mpr h) (fun q => Nat.noConfusion q)
  have hcw : cw y = .code (yN y) (cc y) (mL y) (rt y) := by unfold cw; rw [if_pos hh0]
  refine cwV (ws' := GW) (ag y) hts (good_gw fun w hw => ?_) (by rw [hcw]) rfl rfl ⟨y2, y3.1, y3.2, y4⟩ ⟨hf, hl⟩
  unfold wsV at hw
  rcases List.mem_append.mp hw with hw | hw
  · rw [← y2] at hw
    exact mrW_in w (List.mem_flatMap.mpr ⟨_, hm, hw⟩)
  · exact cw_gw (y := y) (by omega) w hw
theorem a_lin (ha : ∀ n, n < 180 → a (n + 1) = a n + 1) (n : Nat) : ∀ j, n + j ≤ 180 → a (n + j) = a n + j := by
  intro j
  induction j with
  | zero => intro _; rfl
  | succ j ih =>
    intro h
    rw [← Nat.add_assoc, ha _ (by omega), ih (by omega)]
    rfl
set_option maxHeartbeats 6000000 in
theorem s_call (ha : ∀ n, n < 180 → a (n + 1) = a n + 1) : cl_call (SP l D cA a) := by
  intro z pc ls st M κ out i nx y q r x av rest v M1 κ1 h1 hi hy hq hst h5 hc1 h8 hrecv kc k
  obtain ⟨hd, rfl, hm, hk, hr, hf, hl⟩ := inv_row h1 hi hq
  obtain ⟨m1, m2, m3, m4⟩ := m_ok _ hm
  obtain ⟨y1, y2, y3, y4⟩ := y_ok y hy
  dsimp only at m1 m2 m3 m4
  have kc1 := kc.1
  have k1 := k.1
  dsimp only at kc1 k1
  refine ⟨⟨Nat.le_trans kc1.1 k1.1, Nat.le_trans kc1.2.1 k1.2.1, fun h => ?_⟩, fun p e s m args below meth c0 hF A hK hA hb H locs arr cells slots mc ms hR hS hL hc hu hz => ?_⟩
  · obtain ⟨q1, q2⟩ := k1.2.2 h
    obtain ⟨q3, q4⟩ := kc1.2.2 q1
    refine ⟨q3, ?_⟩
    dsimp only
    omega
  · dsimp only at hc hu hz hR hL ⊢
    intro T hT X
    have hub : H.size ≤ s.heap.size + cells := by rw [← hT]; exact X.heapSize
    have hbH : a 999 < H.size := Nat.lt_of_lt_of_le hb hS.1
    obtain ⟨hx, hbb, hml, -, -, hown, -, hts, -, hstt⟩ := id hF
    have hnA := hR.2.2.2.1
    have hsub := aa_sub hR hS hA
    have hsz : kR κ = false → H.size = a (kN κ) := fun h => hsize ha hR hS (hz h) hub
    obtain ⟨mc1, hmc1⟩ : ∃ d, kC κ1 = d + kC κ := ⟨kC κ1 - kC κ, by omega⟩
    obtain ⟨ms1, hms1⟩ : ∃ d, kU κ1 = d + kU κ := ⟨kU κ1 - kU κ, by omega⟩
    have hcm : cells + mc1 ≤ mc := by omega
    have hcs : slots + ms1 ≤ ms := by omega
    have hct := ct_of hstt hy hc1 (show av.length ≤ mL y by omega) kc hmc1 hms1 hbH
    have hM := met_of_vx hct (fun E s t h => by obtain ⟨⟨e9, he, -⟩, -⟩ := h; cases he)
    have hpc : ∀ U : State, U.heap = H → s.WarmedH U.vm → PcM D cA a av M κ H.size (av.map (mv a)).toArray U := fun U hU hW => pcm_of av hK hR hS hA hsz hU hW
    have go : ∀ (H1 : Heap) (locs1 : List Loc), RW D cA a M1 κ1 A s H1 → va_S A s.heap H1 locs1 → W p l e { frames := rf z, cells := mc, slots := ms, locals := rl z } s m args below meth c0 H1 locs1 (cells + mc1) (slots + ms1) (vx_MQ below (QcM D cA a out A) (XcM D cA a out A) args s mc ms A) (F0 m (pc + 3) arr ((v.map (mv a)).toList ++ rest.map (mv a))) := by
      intro H1 locs1 hR1 hS1
      have hgo := k.2 p e s m args below meth c0 hF A hK hA hb H1 locs1 arr (cells + mc1) (slots + ms1) mc ms hR1 hS1 hL (by dsimp only; omega) (by dsimp only; omega) (fun h => by
        dsimp only at h ⊢
        obtain ⟨q3, q4⟩ := kc1.2.2 h
        obtain ⟨z1, z2⟩ := hz q3
        have hn6 := hR1.2.2.2.2.2
        have e1 : kN κ1 = kN κ + mc1 := by omega
        refine ⟨?_, fun h0 => ?_⟩
        · rw [e1, a_lin ha _ _ (by omega)]
          omega
        · have := z2 (by omega)
          omega)
      dsimp only at hgo
      cases v with
      | none => exact hgo
      | some w => exact hgo
    have hsizes : arr.size = mL z := hL.2.1
    have h8' : ((rest.map (mv a)).map fun v => v.category).sum ≤ 8 := by rw [mv_cats]; exact h8
    have hcw0 : hh y = [] → cw y = .code (yN y) (cc y) (mL y) (rt y) := fun h => by unfold cw; rw [if_pos h]
    have hcw1 : hh y ≠ [] → cw y = .codeWith (yN y) (cc y) (mL y) (rt y) (hh y) := fun h => by unfold cw; rw [if_neg h]
    have hw : ∀ w ∈ mrw (oc z, ia i, y, q), w ∈ GW := fun w hw => mrW_in w (List.mem_flatMap.mpr ⟨_, hm, hw⟩)
    have hG : GoodIn GW (cw y :: GW) := good_gw (cw_gw (y := y) (by omega))
    rcases (show q = 0 ∨ q = 1 ∨ q = 2 ∨ q = 3 ∨ q = 4 ∨ q = 5 by omega) with rfl | rfl | rfl | rfl | rfl | rfl
    · obtain ⟨k0, as, rfl, hkd, hkn⟩ := hrecv (by decide)
      have hii : i = .invokevirtual (ia i) := (inv_of hi).2.2.1 hk
      subst hst
      rw [stk_v]
      have he := wld_get (cA := cA) (a := a) (M := M) (X := kX κ) hkn
      have hk8 : kd k0 ≤ 7 := by
        have : oc y ≤ 10 := (show ∀ y, y < 167 → oc y ≤ 10 by decide +kernel) y (by omega)
        have h19 : ∀ k, k < 180 → kd k ≤ 10 → kd k ≤ 7 := by decide +kernel
        exact h19 k0 (Nat.lt_of_lt_of_le hkn hR.2.2.2.2.2) (by omega)
      rw [eE_obj hk8] at he
      have hrec := va_recv hK.1 hR.1 (cl8_get _ (by omega)) he
      rw [hkd] at hrec
      have hrec2 : ∃ cell : Cell, H[a k0]? = some cell ∧ cell.vm.isStatics = false ∧ s.vm.findClass (cn (oc y)) = some cell.cls := hrec
      refine my_call (va_runV (As := as.map (mv a)) (rest := rest.map (mv a)) ⟨hx, hbb, hml, hown, hts⟩ hM (cwv_of hts hy hm hf hl) ⟨pcm_blind, hrec2, hpc⟩ rfl ?_ hsizes rfl (lv_room h8') (by rw [hii] at hd; exact hd) ⟨hcm, hcs⟩) hsub hS hnA go T hT X
      rw [List.length_map]
      simp only [List.length_cons] at h5
      have : kOf 0 ≠ 1 := by decide
      rw [if_neg this] at hr
      omega
    · have hii : i = .invokestatic (ia i) := (inv_of hi).2.2.2.1 hk
      subst hst
      rw [stk_s]
      have hh0 : hh y = [] := by
        rcases Classical.em (hh y = []) with h | h
        · exact h
        · exact absurd (m2.mpr h) (by decide)
      have hcs' := va_cwS (R := { frames := rf z, cells := mc, slots := ms, locals := rl z }) (s := s) (args := args) (own := cn (oc z)) (index := ia i) (ws' := GW) (rm := { frames := rf y, cells := mc1, slots := ms1, locals := rl y }) (mc := mc1) (ms := ms1) (ag y) hts (good_gw fun w hw2 => by
        unfold va_wsS at hw2
        rcases List.mem_append.mp hw2 with hw2 | hw2
        · exact hw w hw2
        · exact cw_gw (y := y) (by omega) w hw2) (by rw [hcw0 hh0]) rfl rfl ⟨y3.1, y3.2, y4⟩ ⟨hf, hl⟩
      refine my_call (va_runS (As := av.map (mv a)) (rest := rest.map (mv a)) ⟨hx, hbb, hml, hown, hts⟩ hM hcs' ⟨pcm_blind, hpc⟩ rfl ?_ hsizes rfl (lv_room h8') (by rw [hii] at hd; exact hd) ⟨hcm, hcs⟩) hsub hS hnA go T hT X
      rw [List.length_map]
      have : kOf 1 = 1 := by decide
      rw [if_pos this] at hr
      omega
    · have hii : i = .invokestatic (ia i) := (inv_of hi).2.2.2.1 hk
      subst hst
      rw [stk_s]
      have hh0 : hh y ≠ [] := m2.mp rfl
      have hcs' := vx_cwSW (R := { frames := rf z, cells := mc, slots := ms, locals := rl z }) (s := s) (args := args) (own := cn (oc z)) (index := ia i) (hh := hh y) (ws' := GW) (rm := { frames := rf y, cells := mc1, slots := ms1, locals := rl y }) (mc := mc1) (ms := ms1) (ag y) hts (good_gw fun w hw2 => by
        unfold va_wsS at hw2
        rcases List.mem_append.mp hw2 with hw2 | hw2
        · exact hw w hw2
        · exact cw_gw (y := y) (by omega) w hw2) (by rw [hcw1 hh0]) rfl rfl ⟨y3.1, y3.2, y4⟩ ⟨hf, hl⟩
      refine my_call (vx_runSW (As := av.map (mv a)) (rest := rest.map (mv a)) ⟨hx, hbb, hml, hown, hts⟩ hM hcs' ⟨pcm_blind, hpc⟩ rfl ?_ hsizes rfl (lv_room h8') (by rw [hii] at hd; exact hd) ⟨hcm, hcs⟩) hsub hS hnA go T hT X
      rw [List.length_map]
      have : kOf 2 = 1 := by decide
      rw [if_pos this] at hr
      omega
    · obtain ⟨k0, as, rfl, hkd, hkn⟩ := hrecv (by decide)
      have hii : i = .invokespecial (ia i) := (inv_of hi).2.2.2.2 hk
      obtain ⟨n1, n2⟩ := m3 (Or.inl rfl)
      subst hst
      rw [stk_v]
      have hh0 : hh y = [] := by
        rcases Classical.em (hh y = []) with h | h
        · exact h
        · exact absurd (m2.mpr h) (by decide)
      have hcs' := cwI (R := { frames := rf z, cells := mc, slots := ms, locals := rl z }) (s := s) (args := args) (own := cn (oc z)) (index := ia i) (ws' := GW) (rm := { frames := rf y, cells := mc1, slots := ms1, locals := rl y }) (mc := mc1) (ms := ms1) (ag y) hts hG (by rw [hcw0 hh0, n2]) rfl rfl (hts _ (hw _ (List.mem_cons_of_mem _ (List.mem_cons_of_mem _ List.mem_cons_self)))) (hts _ (hw _ List.mem_cons_self)) (hts _ (hw _ (List.mem_cons_of_mem _ List.mem_cons_self))) n1 ⟨y3.1, y3.2, y4⟩ ⟨hf, hl⟩
      refine my_call (va_runI (b := a k0) (As := as.map (mv a)) (rest := rest.map (mv a)) ⟨hx, hbb, hml, hown, hts⟩ hM hcs' ⟨pcm_blind, hpc⟩ rfl ?_ hsizes rfl (lv_room h8') (by rw [hii] at hd; exact hd) ⟨hcm, hcs⟩) hsub hS hnA go T hT X
      rw [List.length_map]
      simp only [List.length_cons] at h5
      have : kOf 3 ≠ 1 := by decide
      rw [if_neg this] at hr
      omega
    · obtain ⟨k0, as, rfl, hkd, hkn⟩ := hrecv (by decide)
      have hii : i = .invokespecial (ia i) := (inv_of hi).2.2.2.2 hk
      obtain ⟨n1, n2⟩ := m3 (Or.inr rfl)
      subst hst
      rw [stk_v]
      have hh0 : hh y = [] := by
        rcases Classical.em (hh y = []) with h | h
        · exact h
        · exact absurd (m2.mpr h) (by decide)
      have hcs' := va_cnB (R := { frames := rf z, cells := mc, slots := ms, locals := rl z }) (s := s) (args := args) (own := cn (oc z)) (host := "BundleMill") (index := ia i) (ws' := GW) (rm := { frames := rf y, cells := mc1, slots := ms1, locals := rl y }) (mc := mc1) (ms := ms1) (ag y) hts hG (by rw [hcw0 hh0, n2]) rfl rfl (hK.2.1.1 _ (m4 (by decide))) (hts _ (hw _ (List.mem_cons_of_mem _ List.mem_cons_self))) ⟨y3.1, y3.2, y4⟩ ⟨hf, hl⟩
      refine my_call (va_runIN (b := a k0) (As := as.map (mv a)) (rest := rest.map (mv a)) ⟨hx, hbb, hml, hown, hts⟩ hM ⟨hcs', n1, hts _ (hw _ List.mem_cons_self)⟩ ⟨pcm_blind, hpc⟩ rfl ?_ hsizes rfl (lv_room h8') (by rw [hii] at hd; exact hd) ⟨hcm, hcs⟩) hsub hS hnA go T hT X
      rw [List.length_map]
      simp only [List.length_cons] at h5
      have : kOf 4 ≠ 1 := by decide
      rw [if_neg this] at hr
      omega
    · have hii : i = .invokestatic (ia i) := (inv_of hi).2.2.2.1 hk
      subst hst
      rw [stk_s]
      have hh0 : hh y = [] := by
        rcases Classical.em (hh y = []) with h | h
        · exact h
        · exact absurd (m2.mpr h) (by decide)
      have hcs' := va_cnB (R := { frames := rf z, cells := mc, slots := ms, locals := rl z }) (s := s) (args := args) (own := cn (oc z)) (host := "BundleMill") (index := ia i) (ws' := GW) (rm := { frames := rf y, cells := mc1, slots := ms1, locals := rl y }) (mc := mc1) (ms := ms1) (ag y) hts hG (by rw [hcw0 hh0]) rfl rfl (hK.2.1.1 _ (m4 (by decide))) (hts _ (hw _ (List.mem_cons_of_mem _ List.mem_cons_self))) ⟨y3.1, y3.2, y4⟩ ⟨hf, hl⟩
      refine my_call (va_runSN (As := av.map (mv a)) (rest := rest.map (mv a)) ⟨hx, hbb, hml, hown, hts⟩ hM ⟨hcs', hts _ (hw _ List.mem_cons_self), trivial⟩ ⟨pcm_blind, hpc⟩ rfl ?_ hsizes rfl (lv_room h8') (by rw [hii] at hd; exact hd) ⟨hcm, hcs⟩) hsub hS hnA go T hT X
      rw [List.length_map]
      have : kOf 5 = 1 := by decide
      rw [if_pos this] at hr
      omega
end SND6
