/-! SOUNDNESS, 2: the clauses that leave the world as it is -/
section SND2
variable {l : Launch} {D : va_G} {cA : Nat → ClassId} {a : Nat → Nat}
theorem dec {z pc : Nat} {i : Instr} {nx p q r : Nat} {x : Int32} (h : ins z pc = some (i, nx, p, q, r, x)) (hi : ilen i ≠ 0) : decode (cc z) pc = .ok (i, ilen i) ∧ nx = pc + ilen i ∧ vld1 z pc (i, nx, p, q, r, x) = true := by
  obtain ⟨-, h2⟩ := vk h
  have hl := vlen h hi
  unfold vld at h2
  simp only [Bool.and_eq_true, decide_eq_true_eq] at h2
  obtain ⟨⟨h3, -⟩, h5⟩ := h2
  refine ⟨?_, hl, h5⟩
  rw [h3, hl, Nat.add_sub_cancel_left]
theorem dect {z pc : Nat} {i : Instr} {nx p q r : Nat} {x : Int32} (h : ins z pc = some (i, nx, p, q, r, x)) : decode (cc z) pc = .ok (i, nx - pc) := by
  obtain ⟨-, h2⟩ := vk h
  unfold vld at h2
  simp only [Bool.and_eq_true, decide_eq_true_eq] at h2
  exact h2.1.1
theorem sp1 {z pc nx : Nat} {ls ls' st st' : List Value} {M : Mem} {κ : Kp} {out : Ou} (k : SP l D cA a z (nx, ls', st', M, κ) out)
    (row : ∀ (p : Program) (e : Env) (s : State) (m : MethodId) (args : Array Value) (below : List Frame) (meth : Method) (c : Code) (R : Room) (A : Nat → Prop) (H : Heap) (locs : List Loc) (arr : Array Slot) (cells slots : Nat) (Q : State → Prop), FX z p l s m args meth c → KS D cA s A → RW D cA a M κ A s H → va_S A s.heap H locs → LV a ls (mL z) arr → a 999 < s.heap.size → R.frames = rf z → R.locals = rl z →
      (∀ arr', LV a ls' (mL z) arr' → W p l e R s m args below meth c H locs cells slots Q (F0 m nx arr' (st'.map (mv a)))) → W p l e R s m args below meth c H locs cells slots Q (F0 m pc arr (st.map (mv a)))) : SP l D cA a z (pc, ls, st, M, κ) out := by
  obtain ⟨k1, k3⟩ := k
  refine ⟨k1, fun p e s m args below meth c hF A hK hA hb H locs arr cells slots mc ms hR hS hL hc hu hz => ?_⟩
  refine row p e s m args below meth c _ A H locs arr cells slots _ hF hK hR hS hL hb rfl rfl fun arr' hL' => ?_
  exact k3 p e s m args below meth c hF A hK hA hb H locs arr' cells slots mc ms hR hS hL' hc hu hz
theorem s_push : cl_push (SP l D cA a) := by
  intro z pc ls st M κ out i nx p q r x h1 h2 k
  unfold isPush at h2
  split at h2
  · obtain ⟨hd, rfl, hv⟩ := dec h1 (by simp [ilen])
    refine sp1 k fun p e s m args below meth c R A H locs arr cells slots Q hF hK hR hS hL hb hRf hRl kk => ?_
    exact lv_iconst hF.1 hF.2.1 hd (by simpa [vld1] using hv) (kk arr hL)
  · obtain ⟨hd, rfl, hv⟩ := dec h1 (by simp [ilen])
    refine sp1 k fun p e s m args below meth c R A H locs arr cells slots Q hF hK hR hS hL hb hRf hRl kk => ?_
    exact lv_bipush hF.1 hF.2.1 hd (by simpa [vld1] using hv) (kk arr hL)
  · obtain ⟨hd, rfl, hv⟩ := dec h1 (by simp [ilen])
    refine sp1 k fun p e s m args below meth c R A H locs arr cells slots Q hF hK hR hS hL hb hRf hRl kk => ?_
    exact lv_sipush hF.1 hF.2.1 hd (by simpa [vld1] using hv) (kk arr hL)
  · rename_i ix
    obtain ⟨hd, rfl, hv⟩ := dec h1 (by simp [ilen])
    refine sp1 k fun p e s m args below meth c R A H locs arr cells slots Q hF hK hR hS hL hb hRf hRl kk => ?_
    obtain ⟨hx, hbb, -, -, -, hown, -, hts, -⟩ := hF
    have hm : (oc z, ix, x) ∈ crL := by simpa [vld1] using hv
    have hw : (Cond.constant (cn (oc z)) ix x).before args s = true := hts _ (crW_in _ (List.mem_map.mpr ⟨_, hm, rfl⟩))
    exact lv_ldc hx hbb hown hw hd (kk arr hL)
  · cases h2
theorem s_lpush : cl_lpush (SP l D cA a) := by
  intro z pc ls st M κ out nx p q r x h1 k
  obtain ⟨hd, rfl, hv⟩ := dec h1 (by simp [ilen])
  refine sp1 k fun p e s m args below meth c R A H locs arr cells slots Q hF hK hR hS hL hb hRf hRl kk => ?_
  exact lv_lconst hF.1 hF.2.1 hd rfl (kk arr hL)
theorem s_dpush : cl_dpush (SP l D cA a) := by
  intro z pc ls st M κ out nx p q r x h1 k
  obtain ⟨hd, rfl, hv⟩ := dec h1 (by simp [ilen])
  refine sp1 k fun p e s m args below meth c R A H locs arr cells slots Q hF hK hR hS hL hb hRf hRl kk => ?_
  exact lv_dconst0 hF.1 hF.2.1 hd (kk arr hL)
theorem s_load : cl_load (SP l D cA a) := by
  intro z pc ls st M κ out i nx p q r x v h1 h2 h3 k
  unfold ldOk at h2
  split at h2
  · obtain ⟨hd, rfl, hv⟩ := dec h1 (by simp [ilen])
    simp only [vld1, isLd, beq_iff_eq] at hv
    subst hv
    refine sp1 k fun p e s m args below meth c R A H locs arr cells slots Q hF hK hR hS hL hb hRf hRl kk => ?_
    have hg := hL.get h3 (fun q => by cases q)
    exact lv_iload_n hF.1 hF.2.1 hd rfl hg (kk arr hL)
  · obtain ⟨hd, rfl, hv⟩ := dec h1 (by simp [ilen])
    simp only [vld1, isLd, beq_iff_eq] at hv
    subst hv
    refine sp1 k fun p e s m args below meth c R A H locs arr cells slots Q hF hK hR hS hL hb hRf hRl kk => ?_
    have hg := hL.get h3 (fun q => by cases q)
    exact lv_iload hF.1 hF.2.1 hd hg (kk arr hL)
  · obtain ⟨hd, rfl, hv⟩ := dec h1 (by simp [ilen])
    simp only [vld1, isLd, beq_iff_eq] at hv
    subst hv
    refine sp1 k fun p e s m args below meth c R A H locs arr cells slots Q hF hK hR hS hL hb hRf hRl kk => ?_
    have hg := hL.get h3 (fun q => by cases q)
    exact lv_aload_n hF.1 hF.2.1 hd rfl hg (kk arr hL)
  · obtain ⟨hd, rfl, hv⟩ := dec h1 (by simp [ilen])
    simp only [vld1, isLd, beq_iff_eq] at hv
    subst hv
    refine sp1 k fun p e s m args below meth c R A H locs arr cells slots Q hF hK hR hS hL hb hRf hRl kk => ?_
    have hg := hL.get h3 (fun q => by cases q)
    exact lv_aload hF.1 hF.2.1 hd hg (kk arr hL)
  · obtain ⟨hd, rfl, hv⟩ := dec h1 (by simp [ilen])
    simp only [vld1, isLd, beq_iff_eq] at hv
    subst hv
    refine sp1 k fun p e s m args below meth c R A H locs arr cells slots Q hF hK hR hS hL hb hRf hRl kk => ?_
    have hg := hL.get h3 (fun q => by cases q)
    exact lv_lload_n hF.1 hF.2.1 hd rfl hg (kk arr hL)
  · obtain ⟨hd, rfl, hv⟩ := dec h1 (by simp [ilen])
    simp only [vld1, isLd, beq_iff_eq] at hv
    subst hv
    refine sp1 k fun p e s m args below meth c R A H locs arr cells slots Q hF hK hR hS hL hb hRf hRl kk => ?_
    have hg := hL.get h3 (fun q => by cases q)
    exact lv_lload hF.1 hF.2.1 hd hg (kk arr hL)
  · obtain ⟨hd, rfl, hv⟩ := dec h1 (by simp [ilen])
    simp only [vld1, isLd, beq_iff_eq] at hv
    subst hv
    refine sp1 k fun p e s m args below meth c R A H locs arr cells slots Q hF hK hR hS hL hb hRf hRl kk => ?_
    have hg := hL.get h3 (fun q => by cases q)
    exact lv_dload_n hF.1 hF.2.1 hd rfl hg (kk arr hL)
  · obtain ⟨hd, rfl, hv⟩ := dec h1 (by simp [ilen])
    simp only [vld1, isLd, beq_iff_eq] at hv
    subst hv
    refine sp1 k fun p e s m args below meth c R A H locs arr cells slots Q hF hK hR hS hL hb hRf hRl kk => ?_
    have hg := hL.get h3 (fun q => by cases q)
    exact lv_dload hF.1 hF.2.1 hd hg (kk arr hL)
  · cases h2
theorem s_store : cl_store (SP l D cA a) := by
  intro z pc ls st M κ out i nx p q r x v h1 h2 h3 k
  unfold stOk at h2
  split at h2
  · obtain ⟨hd, rfl, hv⟩ := dec h1 (by simp [ilen])
    simp only [vld1, isLd, beq_iff_eq] at hv
    subst hv
    refine sp1 k fun p e s m args below meth c R A H locs arr cells slots Q hF hK hR hS hL hb hRf hRl kk => ?_
    simp only [Value.category] at h3
    have hn0 := hL.1
    have hn := Nat.lt_of_lt_of_le (Nat.lt_of_succ_le h3) hn0
    exact lv_istore_n hF.1 hF.2.1 hd rfl hL.2 hn rfl (fun ls1 h9 => kk ls1 (hL.set1 h9))
  · obtain ⟨hd, rfl, hv⟩ := dec h1 (by simp [ilen])
    simp only [vld1, isLd, beq_iff_eq] at hv
    subst hv
    refine sp1 k fun p e s m args below meth c R A H locs arr cells slots Q hF hK hR hS hL hb hRf hRl kk => ?_
    simp only [Value.category] at h3
    have hn0 := hL.1
    have hn := Nat.lt_of_lt_of_le (Nat.lt_of_succ_le h3) hn0
    exact lv_istore hF.1 hF.2.1 hd hL.2 hn rfl (fun ls1 h9 => kk ls1 (hL.set1 h9))
  · obtain ⟨hd, rfl, hv⟩ := dec h1 (by simp [ilen])
    simp only [vld1, isLd, beq_iff_eq] at hv
    subst hv
    refine sp1 k fun p e s m args below meth c R A H locs arr cells slots Q hF hK hR hS hL hb hRf hRl kk => ?_
    simp only [Value.category] at h3
    have hn0 := hL.1
    have hn := Nat.lt_of_lt_of_le (Nat.lt_of_succ_le h3) hn0
    exact lv_astore_n hF.1 hF.2.1 hd rfl hL.2 hn rfl (fun ls1 h9 => kk ls1 (hL.set1 (v := .ref _) h9))
  · obtain ⟨hd, rfl, hv⟩ := dec h1 (by simp [ilen])
    simp only [vld1, isLd, beq_iff_eq] at hv
    subst hv
    refine sp1 k fun p e s m args below meth c R A H locs arr cells slots Q hF hK hR hS hL hb hRf hRl kk => ?_
    simp only [Value.category] at h3
    have hn0 := hL.1
    have hn := Nat.lt_of_lt_of_le (Nat.lt_of_succ_le h3) hn0
    exact lv_astore hF.1 hF.2.1 hd hL.2 hn rfl (fun ls1 h9 => kk ls1 (hL.set1 (v := .ref _) h9))
  · obtain ⟨hd, rfl, hv⟩ := dec h1 (by simp [ilen])
    simp only [vld1, isLd, beq_iff_eq] at hv
    subst hv
    refine sp1 k fun p e s m args below meth c R A H locs arr cells slots Q hF hK hR hS hL hb hRf hRl kk => ?_
    simp only [Value.category] at h3
    have hn0 := hL.1
    have hn := Nat.lt_of_lt_of_le (Nat.lt_of_succ_le h3) hn0
    exact lv_lstore_n hF.1 hF.2.1 hd rfl hL.2 hn rfl (fun ls1 h9 => kk ls1 (hL.set2 rfl h9))
  · obtain ⟨hd, rfl, hv⟩ := dec h1 (by simp [ilen])
    simp only [vld1, isLd, beq_iff_eq] at hv
    subst hv
    refine sp1 k fun p e s m args below meth c R A H locs arr cells slots Q hF hK hR hS hL hb hRf hRl kk => ?_
    simp only [Value.category] at h3
    have hn0 := hL.1
    have hn := Nat.lt_of_lt_of_le (Nat.lt_of_succ_le h3) hn0
    exact lv_lstore hF.1 hF.2.1 hd hL.2 hn rfl (fun ls1 h9 => kk ls1 (hL.set2 rfl h9))
  · obtain ⟨hd, rfl, hv⟩ := dec h1 (by simp [ilen])
    simp only [vld1, isLd, beq_iff_eq] at hv
    subst hv
    refine sp1 k fun p e s m args below meth c R A H locs arr cells slots Q hF hK hR hS hL hb hRf hRl kk => ?_
    simp only [Value.category] at h3
    have hn0 := hL.1
    have hn := Nat.lt_of_lt_of_le (Nat.lt_of_succ_le h3) hn0
    exact lv_dstore_n hF.1 hF.2.1 hd rfl hL.2 hn rfl (fun ls1 h9 => kk ls1 (hL.set2 rfl h9))
  · obtain ⟨hd, rfl, hv⟩ := dec h1 (by simp [ilen])
    simp only [vld1, isLd, beq_iff_eq] at hv
    subst hv
    refine sp1 k fun p e s m args below meth c R A H locs arr cells slots Q hF hK hR hS hL hb hRf hRl kk => ?_
    simp only [Value.category] at h3
    have hn0 := hL.1
    have hn := Nat.lt_of_lt_of_le (Nat.lt_of_succ_le h3) hn0
    exact lv_dstore hF.1 hF.2.1 hd hL.2 hn rfl (fun ls1 h9 => kk ls1 (hL.set2 rfl h9))
  · cases h2
theorem s_iinc : cl_iinc (SP l D cA a) := by
  intro z pc ls st M κ out nx p q r x v b y h1 h2 k
  obtain ⟨hd, rfl, hv⟩ := dec h1 (by simp [ilen])
  simp only [vld1, Bool.and_eq_true, beq_iff_eq] at hv
  obtain ⟨rfl, rfl⟩ := hv
  refine sp1 k fun p e s m args below meth c R A H locs arr cells slots Q hF hK hR hS hL hb hRf hRl kk => ?_
  obtain ⟨kq, hkq⟩ := List.getElem?_of_mem ((mem_lvl (a := a) ls 0 (q := (v, .int y))).mpr ⟨v, .int y, h2, (fun q => by cases q), by simp [mv]⟩)
  have hlt : v < ls.length := (List.getElem?_eq_some_iff.mp h2).1
  exact lv_iinc hF.1 hF.2.1 hd hL.2 (k := kq) hkq rfl (Nat.lt_of_lt_of_le hlt hL.1) rfl (fun ls' h' => kk ls' (hL.set1 h'))
theorem s_bin : cl_bin (SP l D cA a) := by
  intro z pc ls st M κ out i nx p q r x f b1 b2 h1 h2 k
  unfold bop at h2
  split at h2
  all_goals first
    | (cases h2; done)
    | (obtain ⟨hd, rfl, hv⟩ := dec h1 (by simp [ilen])
       cases h2
       refine sp1 k fun p e s m args below meth c R A H locs arr cells slots Q hF hK hR hS hL hb hRf hRl kk => ?_
       first
         | exact lv_iadd hF.1 hF.2.1 hd (kk arr hL)
         | exact lv_isub hF.1 hF.2.1 hd (kk arr hL)
         | exact lv_imul hF.1 hF.2.1 hd (kk arr hL)
         | exact lv_iand hF.1 hF.2.1 hd (kk arr hL))
theorem s_div : cl_div (SP l D cA a) := by
  intro z pc ls st M κ out i nx p q r x f b1 b2 h1 h2 h3 k
  unfold dop at h2
  split at h2
  all_goals first
    | (cases h2; done)
    | (obtain ⟨hd, rfl, hv⟩ := dec h1 (by simp [ilen])
       cases h2
       refine sp1 k fun p e s m args below meth c R A H locs arr cells slots Q hF hK hR hS hL hb hRf hRl kk => ?_
       first
         | exact lv_idiv hF.1 hF.2.1 hd h3 (kk arr hL)
         | exact lv_irem hF.1 hF.2.1 hd h3 (kk arr hL))
theorem s_neg : cl_neg (SP l D cA a) := by
  intro z pc ls st M κ out nx p q r x b h1 k
  obtain ⟨hd, rfl, hv⟩ := dec h1 (by simp [ilen])
  refine sp1 k fun p e s m args below meth c R A H locs arr cells slots Q hF hK hR hS hL hb hRf hRl kk => ?_
  exact lv_ineg hF.1 hF.2.1 hd (kk arr hL)
theorem s_i2l : cl_i2l (SP l D cA a) := by
  intro z pc ls st M κ out nx p q r x b h1 k
  obtain ⟨hd, rfl, hv⟩ := dec h1 (by simp [ilen])
  refine sp1 k fun p e s m args below meth c R A H locs arr cells slots Q hF hK hR hS hL hb hRf hRl kk => ?_
  exact lv_i2l hF.1 hF.2.1 hd rfl (kk arr hL)
theorem s_i2d : cl_i2d (SP l D cA a) := by
  intro z pc ls st M κ out nx p q r x b h1 k
  obtain ⟨hd, rfl, hv⟩ := dec h1 (by simp [ilen])
  refine sp1 k fun p e s m args below meth c R A H locs arr cells slots Q hF hK hR hS hL hb hRf hRl kk => ?_
  exact lv_i2d hF.1 hF.2.1 hd (kk arr hL)
theorem s_lcmp : cl_lcmp (SP l D cA a) := by
  intro z pc ls st M κ out nx p q r x b c h1 k
  obtain ⟨hd, rfl, hv⟩ := dec h1 (by simp [ilen])
  refine sp1 k fun p e s m args below meth c R A H locs arr cells slots Q hF hK hR hS hL hb hRf hRl kk => ?_
  exact W.lcmp hF.1 hF.2.1 hd (kk arr hL)
theorem s_lor : cl_lor (SP l D cA a) := by
  intro z pc ls st M κ out nx p q r x b c h1 k
  obtain ⟨hd, rfl, hv⟩ := dec h1 (by simp [ilen])
  refine sp1 k fun p e s m args below meth c R A H locs arr cells slots Q hF hK hR hS hL hb hRf hRl kk => ?_
  exact lv_lor hF.1 hF.2.1 hd (kk arr hL)
theorem s_lshl : cl_lshl (SP l D cA a) := by
  intro z pc ls st M κ out nx p q r x b c h1 k
  obtain ⟨hd, rfl, hv⟩ := dec h1 (by simp [ilen])
  refine sp1 k fun p e s m args below meth c R A H locs arr cells slots Q hF hK hR hS hL hb hRf hRl kk => ?_
  exact lv_lshl hF.1 hF.2.1 hd rfl (kk arr hL)
theorem s_dcmp : cl_dcmp (SP l D cA a) := by
  intro z pc ls st M κ out nx p q r x o b c h1 k
  obtain ⟨hd, rfl, hv⟩ := dec h1 (by simp [ilen])
  refine sp1 k fun p e s m args below meth c R A H locs arr cells slots Q hF hK hR hS hL hb hRf hRl kk => ?_
  exact lv_dcmp hF.1 hF.2.1 hd (kk arr hL)
theorem s_dmul : cl_dmul (SP l D cA a) := by
  intro z pc ls st M κ out nx p q r x b c h1 h2 k
  obtain ⟨hd, rfl, hv⟩ := dec h1 (by simp [ilen])
  refine sp1 k fun p e s m args below meth c R A H locs arr cells slots Q hF hK hR hS hL hb hRf hRl kk => ?_
  exact lv_dmul hF.1 hF.2.1 hd h2 (kk arr hL)
theorem s_ddiv : cl_ddiv (SP l D cA a) := by
  intro z pc ls st M κ out nx p q r x b c h1 h2 k
  obtain ⟨hd, rfl, hv⟩ := dec h1 (by simp [ilen])
  refine sp1 k fun p e s m args below meth c R A H locs arr cells slots Q hF hK hR hS hL hb hRf hRl kk => ?_
  exact lv_ddiv hF.1 hF.2.1 hd h2 (kk arr hL)
theorem s_dup : cl_dup (SP l D cA a) := by
  intro z pc ls st M κ out nx p q r x v h1 h2 k
  obtain ⟨hd, rfl, hv⟩ := dec h1 (by simp [ilen])
  refine sp1 k fun p e s m args below meth c R A H locs arr cells slots Q hF hK hR hS hL hb hRf hRl kk => ?_
  exact lv_dup hF.1 hF.2.1 hd (by rw [mv_cat]; exact h2) (kk arr hL)
theorem s_dup2 : cl_dup2 (SP l D cA a) := by
  intro z pc ls st M κ out nx p q r x v w h1 h2 h3 k
  obtain ⟨hd, rfl, hv⟩ := dec h1 (by simp [ilen])
  refine sp1 k fun p e s m args below meth c R A H locs arr cells slots Q hF hK hR hS hL hb hRf hRl kk => ?_
  exact lv_dup2_11 hF.1 hF.2.1 hd (by rw [mv_cat]; exact h2) (by rw [mv_cat]; exact h3) (kk arr hL)
theorem s_if0 : cl_if0 (SP l D cA a) := by
  intro z pc ls st M κ out nx p q r x c0 o b h1 k1 k2
  obtain ⟨hd, rfl, hv⟩ := dec h1 (by simp [ilen])
  have ht : (pc : Int) + o = (p : Int) := by simpa [vld1] using hv
  by_cases hc : cnd0 c0 b
  · refine sp1 (k1 hc) fun p e s m args below meth c R A H locs arr cells slots Q hF hK hR hS hL hb hRf hRl kk => ?_
    cases c0
    · exact lv_if_eq hF.1 hF.2.1 hd ht (fun _ => kk arr hL) (fun q => absurd hc q)
    · exact lv_if_ne hF.1 hF.2.1 hd ht (fun _ => kk arr hL) (fun q => absurd q hc)
    · exact lv_if_lt hF.1 hF.2.1 hd ht (fun _ => kk arr hL) (fun q => absurd hc q)
    · exact lv_if_ge hF.1 hF.2.1 hd ht (fun _ => kk arr hL) (fun q => absurd hc q)
    · exact lv_if_gt hF.1 hF.2.1 hd ht (fun _ => kk arr hL) (fun q => absurd hc q)
    · exact lv_if_le hF.1 hF.2.1 hd ht (fun _ => kk arr hL) (fun q => absurd hc q)
  · refine sp1 (k2 hc) fun p e s m args below meth c R A H locs arr cells slots Q hF hK hR hS hL hb hRf hRl kk => ?_
    cases c0
    · exact lv_if_eq hF.1 hF.2.1 hd ht (fun q => absurd q hc) (fun _ => kk arr hL)
    · exact lv_if_ne hF.1 hF.2.1 hd ht (fun q => absurd q hc) (fun _ => kk arr hL)
    · exact lv_if_lt hF.1 hF.2.1 hd ht (fun q => absurd q hc) (fun _ => kk arr hL)
    · exact lv_if_ge hF.1 hF.2.1 hd ht (fun q => absurd q hc) (fun _ => kk arr hL)
    · exact lv_if_gt hF.1 hF.2.1 hd ht (fun q => absurd q hc) (fun _ => kk arr hL)
    · exact lv_if_le hF.1 hF.2.1 hd ht (fun q => absurd q hc) (fun _ => kk arr hL)
theorem s_if2 : cl_if2 (SP l D cA a) := by
  intro z pc ls st M κ out nx p q r x c0 o b b2 h1 k1 k2
  obtain ⟨hd, rfl, hv⟩ := dec h1 (by simp [ilen])
  have ht : (pc : Int) + o = (p : Int) := by simpa [vld1] using hv
  by_cases hc : cnd2 c0 b b2
  · refine sp1 (k1 hc) fun p e s m args below meth c R A H locs arr cells slots Q hF hK hR hS hL hb hRf hRl kk => ?_
    cases c0
    · exact lv_icmp_eq hF.1 hF.2.1 hd ht (fun _ => kk arr hL) (fun q => absurd hc q)
    · exact lv_icmp_ne hF.1 hF.2.1 hd ht (fun _ => kk arr hL) (fun q => absurd q hc)
    · exact lv_icmp_lt hF.1 hF.2.1 hd ht (fun _ => kk arr hL) (fun q => absurd hc q)
    · exact lv_icmp_ge hF.1 hF.2.1 hd ht (fun _ => kk arr hL) (fun q => absurd hc q)
    · exact lv_icmp_gt hF.1 hF.2.1 hd ht (fun _ => kk arr hL) (fun q => absurd hc q)
    · exact lv_icmp_le hF.1 hF.2.1 hd ht (fun _ => kk arr hL) (fun q => absurd hc q)
  · refine sp1 (k2 hc) fun p e s m args below meth c R A H locs arr cells slots Q hF hK hR hS hL hb hRf hRl kk => ?_
    cases c0
    · exact lv_icmp_eq hF.1 hF.2.1 hd ht (fun q => absurd q hc) (fun _ => kk arr hL)
    · exact lv_icmp_ne hF.1 hF.2.1 hd ht (fun q => absurd q hc) (fun _ => kk arr hL)
    · exact lv_icmp_lt hF.1 hF.2.1 hd ht (fun q => absurd q hc) (fun _ => kk arr hL)
    · exact lv_icmp_ge hF.1 hF.2.1 hd ht (fun q => absurd q hc) (fun _ => kk arr hL)
    · exact lv_icmp_gt hF.1 hF.2.1 hd ht (fun q => absurd q hc) (fun _ => kk arr hL)
    · exact lv_icmp_le hF.1 hF.2.1 hd ht (fun q => absurd q hc) (fun _ => kk arr hL)
theorem s_goto : cl_goto (SP l D cA a) := by
  intro z pc ls st M κ out nx p q r x o h1 k
  obtain ⟨hd, rfl, hv⟩ := dec h1 (by simp [ilen])
  have ht : (pc : Int) + o = (p : Int) := by simpa [vld1] using hv
  refine sp1 k fun p e s m args below meth c R A H locs arr cells slots Q hF hK hR hS hL hb hRf hRl kk => ?_
  exact lv_goto hF.1 hF.2.1 hd ht (kk arr hL)
theorem s_table : cl_table (SP l D cA a) := by
  intro z pc ls st M κ out i nx p q r x b tgt h1 h2 k
  have hd := dect h1
  unfold tgtOk at h2
  split at h2
  · rename_i d lo hi offs
    refine sp1 k fun p e s m args below meth c R A H locs arr cells slots Q hF hK hR hS hL hb hRf hRl kk => ?_
    split at h2
    · rename_i hlo
      exact lv_tableOut hF.1 hF.2.1 hd hlo (by simpa using h2) (kk arr hL)
    · rename_i hlo
      simp only [decide_eq_true_eq, Option.map_eq_some_iff] at h2
      obtain ⟨o, ho, ht⟩ := h2
      exact lv_tableIn hF.1 hF.2.1 hd (fun q => hlo (Or.inl q)) (fun q => hlo (Or.inr q)) ho ht (kk arr hL)
  · cases h2
theorem s_weak : cl_weak (SP l D cA a) := by
  intro z pc ls st M κ out l1 h1 k
  exact sp1 k fun p e s m args below meth c R A H locs arr cells slots Q hF hK hR hS hL hb hRf hRl kk => kk arr (hL.weak h1)
theorem s_ready : cl_ready (SP l D cA a) := by
  intro z pc ls st M κ out h1 h2 k
  obtain ⟨⟨k1, k2, k3⟩, k4⟩ := k
  refine ⟨⟨k1, k2, fun h => absurd (k3 h).1 (by simp)⟩, fun p e s m args below meth c hF A hK hA hb H locs arr cells slots mc ms hR hS hL hc hu hz => ?_⟩
  exact k4 p e s m args below meth c hF A hK hA hb H locs arr cells slots mc ms ⟨hR.1, hR.2.1, hR.2.2.1, hR.2.2.2.1, fun _ => ⟨h1, h2⟩, hR.2.2.2.2.2⟩ hS hL hc hu (fun q => by cases q)
/-! reading -/
theorem nf_lt {p q : Nat} (h : q < nf p) : p < 8 := by
  rcases Nat.lt_or_ge p 8 with h1 | h1
  · exact h1
  · exfalso
    have hl : nfL.length = 8 := by decide +kernel
    unfold nf at h
    rw [List.getD_eq_getElem?_getD, List.getElem?_eq_none (by omega)] at h
    exact absurd h (Nat.not_lt_zero _)
theorem cl8_get : ∀ c, c < 8 → cl8[c]? = some (cn c, tF c, nf c) := by
  intro c hc
  match c, hc with
  | 0, _ => rfl
  | 1, _ => rfl
  | 2, _ => rfl
  | 3, _ => rfl
  | 4, _ => rfl
  | 5, _ => rfl
  | 6, _ => rfl
  | 7, _ => rfl
theorem uw_in {c : Nat} (hc : c < 8) : ∀ w ∈ u_ws (cn c) (tF c) (nf c), w ∈ GW := fun w hw => lyW_in w (List.mem_flatMap.mpr ⟨c, List.mem_range.mpr hc, hw⟩)
theorem eE_obj {k : Nat} (h : kd k ≤ 7) (f : Nat → Int32) (x : UInt64) : eE cA a k f x = .inr (kd k, (List.range (nf (kd k))).map (fv a k f)) := by unfold eE; rw [if_pos h]
theorem fs_get {k q : Nat} (h : q < nf (kd k)) (f : Nat → Int32) : ((List.range (nf (kd k))).map (fv a k f))[q]? = some (fv a k f q) := by
  rw [List.getElem?_map, List.getElem?_range h]
  rfl
/-- the row of a read field -/
theorem get_row {z pc nx ix k q r : Nat} {x : Int32} (h1 : ins z pc = some (.getfield ix, nx, kd k, q, r, x)) {M : Mem} {κ : Kp} (hk : k < kN κ)
    {p : Program} {e : Env} {s : State} {m : MethodId} {args : Array Value} {below : List Frame} {meth : Method} {c : Code} {R : Room} {A : Nat → Prop} {H : Heap} {locs : List Loc} {arr : Array Slot} {cells slots : Nat} {Q : State → Prop} (hF : FX z p l s m args meth c) (hK : KS D cA s A) (hR : RW D cA a M κ A s H) {st : List Value}
    (kk : W p l e R s m args below meth c H locs cells slots Q (F0 m nx arr (fv a k (M k) q :: st))) : W p l e R s m args below meth c H locs cells slots Q (F0 m pc arr (.ref (a k) :: st)) := by
  obtain ⟨hd, rfl, hv⟩ := dec h1 (by simp [ilen])
  obtain ⟨hx, hbb, -, -, -, hown, -, hts, -⟩ := hF
  simp only [vld1, Bool.and_eq_true, decide_eq_true_eq] at hv
  obtain ⟨hm, hq⟩ := hv
  have hp := nf_lt hq
  have hw : (Cond.fieldLink (cn (oc z)) ix (tF (kd k) q).1 (tF (kd k) q).2.1 (tF (kd k) q).2.2.1).before args s = true := hts _ (frW_in _ (List.mem_map.mpr ⟨(oc z, ix, kd k, q), by simpa using hm, rfl⟩))
  have he := wld_get (cA := cA) (a := a) (M := M) (X := kX κ) hk
  rw [eE_obj (by omega)] at he
  exact va_get hx hbb hts (uw_in hp) hown hK.1 hR.1 k he (cl8_get _ hp) q hq hw (fun _ h => h) (fs_get hq _) hd kk
theorem s_getI : cl_getI (SP l D cA a) := by
  intro z pc ls st M κ out nx p q r x ix k h1 h2 h3 h4 kp
  subst h2
  refine sp1 kp fun p e s m args below meth c R A H locs arr cells slots Q hF hK hR hS hL hb hRf hRl kk => ?_
  refine get_row h1 h4 hF hK hR ?_
  have : fv a k (M k) q = .int (M k q) := by unfold fv; rw [if_pos h3]
  rw [this]
  exact kk arr hL
theorem s_getR : cl_getR (SP l D cA a) := by
  intro z pc ls st M κ out nx p q r x ix k h1 h2 h3 h4 h5 kp
  subst h2
  refine sp1 kp fun p e s m args below meth c R A H locs arr cells slots Q hF hK hR hS hL hb hRf hRl kk => ?_
  refine get_row h1 h4 hF hK hR ?_
  obtain ⟨hd, -, hv⟩ := dec h1 (by simp [ilen])
  simp only [vld1, Bool.and_eq_true, decide_eq_true_eq] at hv
  have hp := nf_lt hv.2
  have hne : M k q ≠ 0 := by
    rcases h5 with h5 | h5
    · refine (hR.2.2.2.2.1 h5).1 k q ?_
      unfold sref
      rw [if_pos (by omega), h3]
      rfl
    · exact h5
  have : fv a k (M k) q = .ref (a (k + off (kd k) q)) := by unfold fv; rw [if_neg (by omega), if_neg hne, if_pos h3]
  rw [this]
  exact kk arr hL
theorem s_getD : cl_getD (SP l D cA a) := by
  intro z pc ls st M κ out nx p q r x ix k d h1 h2 h3 h4 h5 h6 h7 kp
  subst h2
  refine sp1 kp fun p e s m args below meth c R A H locs arr cells slots Q hF hK hR hS hL hb hRf hRl kk => ?_
  refine get_row h1 h4 hF hK hR ?_
  have : fv a k (M k) q = .ref (a d) := by unfold fv; rw [if_neg (by omega), h5, if_neg (nI_ne0 h6 (by omega)), if_neg (by omega), nI_clamp (by omega)]
  rw [this]
  exact kk arr hL
theorem s_iald : cl_iald (SP l D cA a) := by
  intro z pc ls st M κ out nx p q r x k b h1 h2 h3 h4 kp
  obtain ⟨hd, rfl, hv⟩ := dec h1 (by simp [ilen])
  refine sp1 kp fun p e s m args below meth c R A H locs arr cells slots Q hF hK hR hS hL hb hRf hRl kk => ?_
  have he := wld_get (cA := cA) (a := a) (M := M) (X := kX κ) h3
  unfold eE at he
  rw [if_neg (by omega), if_pos h2] at he
  exact va_iald hF.1 hF.2.1 hK.1 hR.1 k 0 he rfl h4 hd (kk arr hL)
theorem s_zald : cl_zald (SP l D cA a) := by
  intro z pc ls st M κ out nx p q r x k b h1 h2 h3 h4 kp
  obtain ⟨hd, rfl, hv⟩ := dec h1 (by simp [ilen])
  refine sp1 kp fun p e s m args below meth c R A H locs arr cells slots Q hF hK hR hS hL hb hRf hRl kk => ?_
  have he := wld_get (cA := cA) (a := a) (M := M) (X := kX κ) h3
  unfold eE at he
  rw [if_neg (by omega), if_neg (by omega), if_pos h2] at he
  exact va_zald hF.1 hF.2.1 hK.1 hR.1 k 1 he rfl h4 hd (kk arr hL)
theorem s_aald : cl_aald (SP l D cA a) := by
  intro z pc ls st M κ out nx p q r x k b h1 h2 h3 h4 h5 kp
  obtain ⟨hd, rfl, hv⟩ := dec h1 (by simp [ilen])
  refine sp1 kp fun p e s m args below meth c R A H locs arr cells slots Q hF hK hR hS hL hb hRf hRl kk => ?_
  have he := wld_get (cA := cA) (a := a) (M := M) (X := kX κ) h3
  have hlt : b.toNatClampNeg < 6 := Nat.not_le.mp fun q => h4 (Or.inr q)
  have hne : M k b.toNatClampNeg ≠ 0 := by
    rcases h5 with h5 | h5
    · refine (hR.2.2.2.2.1 h5).1 k _ ?_
      unfold sref
      rw [if_neg (by omega)]
      rcases h2 with h2 | h2 <;> simp [h2, hlt]
    · exact h5
  have hv : va_rf (er a k (M k) b.toNatClampNeg) = .ref (a (elb k + 18 * b.toNatClampNeg)) := by unfold er; rw [if_neg hne]; rfl
  have kk2 := kk arr hL
  rcases h2 with h2 | h2
  · unfold eE at he
    rw [if_neg (by omega), if_neg (by omega), if_neg (by omega), if_pos h2] at he
    refine va_aldq (C := "BundleMill$Block") hF.1 hF.2.1 hK.1 hR.1 k 2 he rfl h4 hd ?_
    rw [hv]
    exact kk2
  · unfold eE at he
    rw [if_neg (by omega), if_neg (by omega), if_neg (by omega), if_neg (by omega), if_pos h2] at he
    refine va_aldq (C := "BundleMill$Plan") hF.1 hF.2.1 hK.1 hR.1 k 3 he rfl h4 hd ?_
    rw [hv]
    exact kk2
theorem s_lald : cl_lald (SP l D cA a) := by
  intro z pc ls st M κ out nx p q r x k b h1 h2 h3 h4 kp
  obtain ⟨hd, rfl, hv⟩ := dec h1 (by simp [ilen])
  refine sp1 kp fun p e s m args below meth c R A H locs arr cells slots Q hF hK hR hS hL hb hRf hRl kk => ?_
  have he := wld_get (cA := cA) (a := a) (M := M) (X := kX κ) h3
  unfold eE at he
  rw [if_neg (by omega), if_neg (by omega), if_neg (by omega), if_neg (by omega), if_neg (by omega), if_pos h2] at he
  have h0 : b.toNatClampNeg = 0 := by
    have : b.toNatClampNeg < 1 := Nat.not_le.mp fun q => h4 (Or.inr q)
    omega
  refine va_lald hF.1 hF.2.1 hK.1 hR.1 k 4 he rfl h4 hd ?_
  rw [if_pos h0]
  exact kk arr hL
theorem s_dald : cl_dald (SP l D cA a) := by
  intro z pc ls st M κ out nx p q r x k b h1 h2 h3 h4 kp
  obtain ⟨hd, rfl, hv⟩ := dec h1 (by simp [ilen])
  refine sp1 kp fun p e s m args below meth c R A H locs arr cells slots Q hF hK hR hS hL hb hRf hRl kk => ?_
  have he := wld_get (cA := cA) (a := a) (M := M) (X := kX κ) h3
  unfold eE at he
  rw [if_neg (by omega), if_neg (by omega), if_neg (by omega), if_neg (by omega), if_neg (by omega), if_neg (by omega)] at he
  have h0 : b.toNatClampNeg = 0 := by
    have : b.toNatClampNeg < 1 := Nat.not_le.mp fun q => h4 (Or.inr q)
    omega
  refine va_dald hF.1 hF.2.1 hK.1 hR.1 k 5 he rfl h4 hd ?_
  rw [if_pos h0]
  exact kk arr hL
theorem s_sald : cl_sald (SP l D cA a) := by
  intro z pc ls st M κ out nx p q r x b h1 h4 kp
  obtain ⟨hd, rfl, hv⟩ := dec h1 (by simp [ilen])
  refine sp1 kp fun p e s m args below meth c R A H locs arr cells slots Q hF hK hR hS hL hb hRf hRl kk => ?_
  obtain ⟨scr, g1, g2, g3, g4, g5⟩ := hR.2.2.1
  have hlt : b.toNatClampNeg < kL κ := Nat.not_le.mp fun q => h4 (Or.inr q)
  exact W.iald (v := .int (M 999 b.toNatClampNeg)) hF.1 hF.2.1 g1 g2 g3 (by rw [g4]; exact h4) (g5 _ hlt) rfl rfl hd (kk arr hL)
theorem s_slen : cl_slen (SP l D cA a) := by
  intro z pc ls st M κ out nx p q r x h1 kp
  obtain ⟨hd, rfl, hv⟩ := dec h1 (by simp [ilen])
  refine sp1 kp fun p e s m args below meth c R A H locs arr cells slots Q hF hK hR hS hL hb hRf hRl kk => ?_
  obtain ⟨scr, g1, g2, g3, g4, g5⟩ := hR.2.2.1
  exact W.alen (n := Int32.ofNat (kL κ)) hF.1 hF.2.1 g1 g2 (by rw [g4] <;> rfl) rfl rfl hd (kk arr hL)
theorem s_oinit : cl_oinit (SP l D cA a) := by
  intro z pc ls st M κ out nx p q r x ix k h1 h2 h3 kp
  obtain ⟨hd, rfl, hv⟩ := dec h1 (by simp [ilen])
  refine sp1 kp fun p e s m args below meth c R A H locs arr cells slots Q hF hK hR hS hL hb hRf hRl kk => ?_
  obtain ⟨hx, hbb, hml, -, -, hown, -, hts, -⟩ := hF
  simp [vld1, isLd, ik, ia, h2] at hv
  obtain ⟨⟨hm, hf⟩, hl⟩ := hv
  have hw : (Cond.methodLink (cn (oc z)) ix objectInit).before args s = true := hts _ (oiW_in _ (List.mem_append_left _ (List.mem_map.mpr ⟨(oc z, ix), hm, rfl⟩)))
  have hsz : arr.size = mL z := hL.2.1
  refine W.objInit hx hbb hown hw (hts _ (oiW_in _ (List.mem_append_right _ List.mem_cons_self))) (hts _ (oiW_in _ (List.mem_append_right _ (List.mem_cons_of_mem _ List.mem_cons_self)))) rfl (hsz.trans hml.symm) rfl hd (by omega) ?_ (kk arr hL)
  show 2 * 0 + ((st.map (mv a)).map fun v => v.category).sum + 12 ≤ R.locals
  rw [mv_cats]
  have h3' : (st.map fun v => v.category).sum ≤ 8 := h3
  omega
end SND2
