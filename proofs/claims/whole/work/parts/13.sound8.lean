/-! SOUNDNESS, 8: caught throws, and every run -/
section SND8
variable {l : Launch} {D : va_G} {cA : Nat → ClassId} {a : Nat → Nat}
theorem split_at {α : Type} {L : List α} {n : Nat} {x : α} (h : L[n]? = some x) : L = L.take n ++ x :: L.drop (n + 1) := by
  obtain ⟨hn, hx⟩ := List.getElem?_eq_some_iff.mp h
  have h1 := (List.take_append_drop n L).symm
  rw [List.drop_eq_getElem_cons hn, hx] at h1
  exact h1
/-- a handler's code: away with the exception, a constant, the answer -/
theorem hcode_row {z hp : Nat} {w : Int32} (h : hcode z hp w = true) (hrt : rt z = some .int) {p : Program} {e : Env} {s : State} {m : MethodId} {args : Array Value} {below : List Frame} {meth : Method} {c : Code} {R : Room} {H : Heap} {locs : List Loc} {arr : Array Slot} {ls : List Value} {mc ms : Nat} {q9 : Addr} {Qc : Array Value → State → Outcome → State → Prop} {XC : String → State → State → Prop} {free : Addr → Prop} (hF : FX z p l s m args meth c) (hL : LV a ls (mL z) arr)
    (hq : ∀ t : State, t.heap = H → s.WarmedH t.vm → Qc args s (.returned (some (.int w))) t) (hf : ∀ q ∈ locs, free q.base) : W p l e R s m args below meth c H locs mc ms (vx_MQ below Qc XC args s mc ms free) (F0 m hp arr [.ref q9]) := by
  obtain ⟨hx, hbb, hml, hr, hlk, -⟩ := hF
  unfold hcode at h
  split at h
  · rename_i i nx p0 q0 r0 x0 h1
    simp only [Bool.and_eq_true, decide_eq_true_eq] at h
    obtain ⟨⟨ha, hp0⟩, h2⟩ := h
    split at h2
    · rename_i n0 nx2 p1 q1 r1 x1 h3
      simp only [Bool.and_eq_true, beq_iff_eq] at h2
      obtain ⟨rfl, h4⟩ := h2
      split at h4
      · rename_i e2 h5
        obtain ⟨nx3, p2, q2, r2, x2⟩ := e2
        have fin : ∀ arr', W p l e R s m args below meth c H locs mc ms (vx_MQ below Qc XC args s mc ms free) (F0 m nx arr' []) := by
          intro arr'
          obtain ⟨hd, hnx, hv⟩ := dec h3 (by simp [ilen])
          refine lv_iconst hx hbb hd (by simpa [vld1] using hv) ?_
          have hnx' : nx2 = nx + 1 := hnx
          rw [← hnx']
          obtain ⟨hd5, -, -⟩ := dec h5 (by simp [ilen])
          exact vx_ret (W.iret hx hbb (hr.trans hrt) hq hf hd5 hlk)
        cases i <;> simp only [isAst] at ha <;> try cases ha
        · obtain ⟨hd, rfl, hv⟩ := dec h1 (by simp [ilen])
          simp only [vld1, isLd, beq_iff_eq] at hv
          subst hv
          exact lv_astore hx hbb hd hL.2 hp0 rfl (fun ls' _ => fin ls')
        · obtain ⟨hd, rfl, hv⟩ := dec h1 (by simp [ilen])
          simp only [vld1, isLd, beq_iff_eq] at hv
          subst hv
          exact lv_astore_n hx hbb hd rfl hL.2 hp0 rfl (fun ls' _ => fin ls')
      · cases h4
    · cases h2
  · cases h
theorem s_callC (ha : ∀ n, n < 180 → a (n + 1) = a n + 1) : cl_callC (SP l D cA a) := by
  intro z pc ls st M κ out i nx y q r x av rest ee n hp M1 κ1 w h1 hi hy hq hst h5 hc1 h8 hrecv hq0 hz6 hmem kc
  subst hq0
  have hck := List.all_eq_true.mp hchk_ok _ hmem
  unfold hchk at hck
  simp only [Bool.and_eq_true, decide_eq_true_eq, beq_iff_eq] at hck
  obtain ⟨⟨⟨⟨⟨⟨⟨c1, c2⟩, c3⟩, c4⟩, c5⟩, c6⟩, c7⟩, c8⟩ := hck
  refine ⟨kc.1, fun p e s m args below meth c0 hF A hK hA hb H locs arr cells slots mc ms hR hS hL hc hu hz => ?_⟩
  refine callT_core ha h1 hi hy hst h5 hc1 h8 hrecv kc hF hK hA hb hR hS hL hc hu hz fun H1 locs1 ce q9 h5e hR1 hS1 g1 g2 g3 => ?_
  obtain ⟨hx, hbb, hml, hr, hlk, hown, -, hts, hex, hstt⟩ := id hF
  rw [c2] at hown
  split at c5
  · rename_i qh hqh
    simp only [Bool.and_eq_true, beq_iff_eq, bne_iff_ne] at c5
    obtain ⟨⟨d1, d2⟩, d3⟩ := c5
    have hlink : ∀ q ∈ hcL, (Cond.classLink (cn 9) q.1 (ex q.2)).before args s = true := fun q hq => hts _ (hcW_in _ (List.mem_map.mpr ⟨q, hq, rfl⟩))
    have hsp := split_at hqh
    have htab : c0.exceptionTable.toList = ((hh z).take n).map (fun q => (⟨q.1, q.2.1, q.2.2.1, q.2.2.2⟩ : ExceptionTableEntry)) ++ (⟨qh.1, qh.2.1, qh.2.2.1, qh.2.2.2⟩ : ExceptionTableEntry) :: ((hh z).drop (n + 1)).map (fun q => (⟨q.1, q.2.1, q.2.2.1, q.2.2.2⟩ : ExceptionTableEntry)) := by
      rw [hex hz6]
      unfold tableOf
      conv => lhs; rw [hsp]
      rw [List.map_append, List.map_cons]
    have hcov : ∀ q ∈ hh z, q.1 ≤ pc ∧ pc < q.2.1 := by
      have h2 : (tb z).lookup pc = some (i, nx, y, 0, r, x) := h1
      have h3 := List.all_eq_true.mp c7 (pc, i, nx, y, 0, r, x) (lookup_mem h2)
      have hk0 : ik i = 0 := (inv_row h1 hi (by omega)).2.2.2.1
      intro q hq
      simp only [Bool.or_eq_true, bne_iff_ne, hk0] at h3
      rcases h3 with h3 | h3
      · exact absurd rfl h3
      · have h4 := List.all_eq_true.mp h3 q hq
        simpa using h4
    have hqm : qh ∈ hh z := List.mem_of_getElem? hqh
    refine vx_catch (name := ex ee) hown _ _ _ htab ?_ ?_ d3 (hlink (qh.2.2.2, ee) (by simpa using d2)) (va_Nw.use rfl (hK.2.1.2.1 _ h5e)) g1 g2 g3 ?_
    · intro x9 hx9
      obtain ⟨q, hq, rfl⟩ := List.mem_map.mp hx9
      have h6 := List.all_eq_true.mp c6 q hq
      simp only [Bool.and_eq_true, bne_iff_ne] at h6
      obtain ⟨f1, f2⟩ := h6
      obtain ⟨cc9, f3, f4⟩ := List.any_eq_true.mp f2
      simp only [Bool.and_eq_true, beq_iff_eq, bne_iff_ne, decide_eq_true_eq] at f4
      obtain ⟨⟨f5, f6⟩, f7⟩ := f4
      refine Or.inr ⟨f1, ex cc9.2, ?_, hK.2.1.2.2.2.1 _ h5e _ f7 (Ne.symm f6)⟩
      rw [← f5]
      exact hlink cc9 f3
    · obtain ⟨k1, k2⟩ := hcov qh hqm
      simp [covers, k1, k2]
    · show W p l e _ s m args below meth c0 H1 locs1 mc ms _ (F0 m qh.2.2.1 arr [.ref q9])
      rw [d1]
      exact hcode_row c8 c4 hF hL (fun t ht hW => ⟨⟨_, rfl, rfl⟩, by rw [ht]; exact hR1.warm hW.alike, hS1.F ht⟩) hS1.2.2
  · cases c5
theorem s_alen : cl_alen (SP l D cA a) := by
  intro z pc ls st M κ out nx p q r x k h1 h2 h3 kp
  obtain ⟨hd, rfl, hv⟩ := dec h1 (by simp [ilen])
  refine sp1 kp fun p e s m args below meth c R A H locs arr cells slots Q hF hK hR hS hL hb hRf hRl kk => ?_
  have he := wld_get (cA := cA) (a := a) (M := M) (X := kX κ) h3
  unfold eE at he
  rw [if_neg (by omega), if_pos h2] at he
  exact va_alen hF.1 hF.2.1 hK.1 hR.1 k 0 he rfl rfl hd (kk arr hL)
theorem cl_all (ha : ∀ n, n < 180 → a (n + 1) = a n + 1) : Cl (SP l D cA a) := ⟨s_push, s_lpush, s_dpush, s_load, s_store, s_iinc, s_bin, s_div, s_neg, s_i2l, s_i2d, s_lcmp, s_lor, s_lshl, s_dcmp, s_dmul, s_ddiv, s_dup, s_dup2, s_if0, s_if2, s_goto, s_table, s_getI, s_getR, s_getD, s_putI, s_putR, s_putD, s_iald, s_sald, s_slen, s_alen, s_zald, s_aald, s_lald, s_dald, s_iast, s_zast, s_aast, s_last, s_dast, s_new ha, s_newa ha, s_anew ha, s_oinit, s_ready, s_weak, s_call ha, s_callT ha, s_callC ha, s_mmax, s_mabs, s_throw, s_iret, s_lret, s_dret, s_vret⟩
theorem run_sound (ha : ∀ n, n < 180 → a (n + 1) = a n + 1) {z : Nat} {st : St} {out : Ou} (h : Run z st out) : SP l D cA a z st out := h _ (cl_all ha)
end SND8
