/-! SOUNDNESS, 7: throws, and the whole -/
section SND7
variable {l : Launch} {D : va_G} {cA : Nat → ClassId} {a : Nat → Nat}
def nmL : List String := ["java/lang/RuntimeException", "java/lang/Exception"]
/-- the words of a throw -/
def thw (t : Nat × Nat × Nat × Nat) : List Cond := Cond.classLink (cn t.1) t.2.1 (ex t.2.2.2) :: Cond.initialized (ex t.2.2.2) :: vx_at0 (cn t.1) t.2.2.1 (ex t.2.2.2) nmL
set_option maxRecDepth 100000 in
theorem th_in : ∀ t ∈ thL, t.2.2.2 < 5 ∧ (thw t).all (fun w => vx_ot w && decide (w ∈ lw_tbl)) = true := by decide +kernel
set_option maxRecDepth 100000 in
theorem th_sp : ∀ t ∈ thL, (thw t).all (fun w => goodWord w || decide (w = .castable (ex t.2.2.2) (ex t.2.2.2)) || dcL.any (fun n => decide (w = .declares n))) = true := by decide +kernel
theorem ex_fit : ∀ e, e < 5 → Bundle.fit (ex e) = true := by decide +kernel
theorem nm_fit : ∀ n ∈ nmL, Bundle.fit n = true := by decide +kernel
theorem th_words {s : State} {args : Array Value} {t : Nat × Nat × Nat × Nat} (ht : t ∈ thL) (hts : ∀ w ∈ GW, w.before args s = true) (hK : KN s) : ∀ w ∈ thw t, w.before args s = true := by
  intro w hw
  obtain ⟨h5, h1⟩ := th_in t ht
  have h2 := List.all_eq_true.mp h1 w hw
  have h3 := List.all_eq_true.mp (th_sp t ht) w hw
  simp only [Bool.and_eq_true, decide_eq_true_eq, Bool.or_eq_true] at h2 h3
  rcases h3 with (h3 | h3) | h3
  · exact hts w (List.mem_filter.mpr ⟨h2.2, h3⟩)
  · rw [h3]
    exact va_Nw.use rfl (hK.2.1 _ h5)
  · obtain ⟨n, hn, he⟩ := List.any_eq_true.mp h3
    rw [decide_eq_true_eq] at he
    rw [he]
    exact va_Nw.use rfl (hK.2.2.1 n hn)
theorem s_throw : cl_throw (SP l D cA a) := by
  intro z pc ls st M κ out nx p q r x ix h1 h2 hr0 hz h3 h4
  subst h2
  obtain ⟨hd, -, hv⟩ := dec h1 (by simp [ilen])
  refine ⟨⟨Nat.le_succ _, Nat.le_add_right _ _, fun h => ?_⟩, fun p e s m args below meth c hF A hK hA hb H locs arr cells slots mc ms hR hS hL hc hu hz => ?_⟩
  · have h' : kR κ = false := h
    rw [hr0] at h'
    cases h'
  · dsimp only [kC, kU] at hc hu
    obtain ⟨hx, hbb, hml, -, hlk, hown, -, hts, hex, hstt⟩ := hF
    have hv2 : (1 == 1 && thL.any (fun t => t.1 == oc z && t.2.1 == ix && t.2.2.2 == p✝ && decide (decode (cc z) (pc + 4) = .ok (.invokespecial t.2.2.1, 3))) && decide (decode (cc z) (pc + 3) = .ok (.dup, 1)) && decide (decode (cc z) (pc + 7) = .ok (.athrow, 1)) && decide (6 ≤ rf z) && decide (89 ≤ rl z)) = true := hv
    sorry
end SND7
