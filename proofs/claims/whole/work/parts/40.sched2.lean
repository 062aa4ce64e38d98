/-! MODULO: the class schedules a loop, whole -/
section P_40_sched2
variable {Q : Ou → Prop} {M M0 : Mem} {κ : Kp}
section SC
variable {n p : Nat} {Wf : Nat → Nat → Nat → Option Int32} {Pt : Nat → Bool} {U : Bool → Nat} {L : Nat → Int32} {lp : Bool} {len : Nat}
/-- what the class's modulo scheduler leaves alone -/
def fr37 (p : Nat) (M0 M : Mem) : Prop := ∀ o x, ¬ (o = 118 ∨ o = 123 ∨ o = 124 ∨ o = 125 ∨ (o = p ∧ 1 ≤ x ∧ x ≤ 4) ∨ o = p + 3) → M o x = M0 o x
theorem f37 (hκ : Rd κ) (hp : isPl p) (hn : n ≤ 10) (hl80 : len ≤ 80) (hc : M0 113 0 = nI n) (hlp : M0 113 1 = bI lp) (hal : M0 113 2 = nI (U false)) (hpo : M0 113 3 = nI (U true)) (hU : ∀ b, 1 ≤ U b ∧ U b ≤ 4) (hPt : ∀ k, k < n → M0 114 k = bI (Pt k)) (hL : ∀ k, k < n → M0 115 k = L k) (hw : Wfam n Wf) (h25 : H25 κ n Wf M0) (hlen : M0 p 0 = nI len)
    (K : ∀ M, fr37 p M0 M → MR n Wf Pt U L lp len (M p 1) (M p 2) (M p 3) (M p 4) (M (p + 3)) → Q (.inl none, M, κ)) : RT 37 (0, entL 37 [.ref 122, .ref 113, .ref p], [], M0, κ) Q := by
  have hr2 := pl_rng hp
  have hmi := miN_le (Pt := Pt) (U := U) hw hn (fun b => (hU b).1)
  refine S37_0 hκ hp ?_
  refine f38 hκ hp hn ((stM_o (by omega)).trans hc) (fun M1 g1 g2 g3 g4 g5 => ⟨none, M1, κ, rfl, ?_⟩)
  have f1 : fr37 p M0 M1 := fun o x h => (g1 o x (by omega)).trans (stM_n (by omega))
  have m1 : M1 p 1 = 0 := (g1 p 1 (by omega)).trans stM_s
  refine S37_10 hκ hp hn ((f1 _ _ (by omega)).trans hc) ((f1 _ _ (by omega)).trans hlp) (fun h => ?_) (fun h1 h2 => ?_)
  · refine K M1 f1 ?_
    unfold MR
    rw [if_neg (by
      rintro ⟨z1, z2⟩
      rcases h with h | h
      · omega
      · exact h z1)]
    exact ⟨m1, g2, g3, g4, g5⟩
  · have hgo : lp = true ∧ 0 < n := ⟨h1, by omega⟩
    refine f41 (U := U) (Pt := Pt) hκ hn ((f1 _ _ (by omega)).trans hc) ((f1 _ _ (by omega)).trans hal) ((f1 _ _ (by omega)).trans hpo) hU (fun k hk => (f1 _ _ (by omega)).trans (hPt k hk)) hw (H25_eq h25 (fun o x h => f1 o x (by omega))) (fun M2 j1 => ⟨_, M2, κ, rfl, ?_⟩)
    refine S37_31 hκ hp (by omega) ?_
    have main : ∀ d ii M, ii + d = (if miN n Wf Pt U ≤ len + 1 then len + 1 else miN n Wf Pt U) → miN n Wf Pt U ≤ ii → iiN n Wf Pt U len = srN (gdI n Wf Pt U) d ii → fr37 p M0 M → M p 1 = nI (miN n Wf Pt U) → RT 37 (39, [.ref 122, .ref 113, .ref p, .int (nI ii)], [], M, κ) Q := by
      intro d
      induction d with
      | zero =>
        intro ii M hd hii hm hf hM
        rw [srN] at hm
        have hlt : len < ii := by
          split at hd <;> omega
        refine S37_39 hκ hp ((hf _ _ (by omega)).trans hlen) (by omega) (by split at hd <;> omega) (fun _ => ?_) (fun z => absurd hlt z)
        refine f38 hκ hp hn ((hf _ _ (by omega)).trans hc) (fun M3 q1 q2 q3 q4 q5 => ⟨none, M3, κ, rfl, ?_⟩)
        refine w_weak (lle_u (lle_u (lle_u (lle_u lle_n)))) (S37_75 hκ hp (K M3 (fun o x h => (q1 o x (by omega)).trans (hf o x h)) ?_))
        unfold MR
        rw [if_pos hgo, hm, if_neg (by omega)]
        exact ⟨(q1 _ _ (by omega)).trans hM, q2, q3, q4, q5⟩
      | succ d ih =>
        intro ii M hd hii hm hf hM
        have hle : ii ≤ len := by
          split at hd <;> omega
        have hi0 : 1 ≤ ii := by omega
        rw [srN] at hm
        have hc2 := (hf 113 0 (by omega)).trans hc
        have hd2 : ii + 1 + d = (if miN n Wf Pt U ≤ len + 1 then len + 1 else miN n Wf Pt U) := by omega
        refine S37_39 hκ hp ((hf _ _ (by omega)).trans hlen) (by omega) (by omega) (fun z => absurd z (by omega)) (fun _ => ?_)
        refine f43 (b := !posF n Wf ii) (W := Wf ii) (U := U) (Pt := Pt) (Φ := fun P => ∀ i, i < n → P i = prI n Wf ii i) hκ hp hn (by omega) hi0 hc2 ((hf _ _ (by omega)).trans hal) ((hf _ _ (by omega)).trans hpo) (fun b => by have := (hU b).2; omega) (fun k hk => (hf _ _ (by omega)).trans (hPt k hk)) (hw.1 ii (by omega)) (fun Q' hh => ?_) (fun hb M3 q1 => ?_) (fun hb M3 P q1 hP q2 => ?_)
        · exact f42' (ii := ii) hκ hn (by omega) hc2 hw (H25_eq h25 (fun o x h => hf o x (by omega))) hh
        · refine ⟨_, M3, κ, rfl, ?_⟩
          refine S37_54 (b := false) hκ hp (by omega) (fun z => by cases z) (fun _ => ?_)
          have hg : gdI n Wf Pt U ii = false := by
            unfold gdI
            rw [hb]
            rfl
          rw [hg, if_neg Bool.false_ne_true] at hm
          exact ih (ii + 1) M3 hd2 (by omega) hm (fun o x h => (q1 o x (by omega)).trans (hf o x h)) ((q1 _ _ (by omega)).trans hM)
        · refine ⟨_, M3, κ, rfl, ?_⟩
          have ec : (mits n (Wf ii) P Pt U ii (6 * n)).1 = cIF n Wf Pt U ii := by
            unfold cIF
            rw [mits_congr hP]
          have hg : gdI n Wf Pt U ii = goF n P (mits n (Wf ii) P Pt U ii (6 * n)).1 (nI ii) := by
            unfold gdI
            rw [hb, ec, goF_congr hP]
            rfl
          rw [← hg]
          rw [ec] at q2
          have hf3 : fr37 p M0 M3 := fun o x h => (q1 o x (by omega)).trans (hf o x h)
          have hc3 := (hf3 113 0 (by omega)).trans hc
          refine S37_54 hκ hp (by omega) (fun h => ?_) (fun h => ?_)
          · rw [if_pos h] at hm
            have c0' : ∀ i, i < n → stM M3 p 2 (nI ii) (p + 3) i = cIF n Wf Pt U ii i := fun i hi => (stM_o (by omega)).trans (q2 i hi)
            have c29' := c29 (M := stM (stM M3 p 2 (nI ii)) p 3 (1 + gst (cIF n Wf Pt U ii) (nI ii) n)) (L := L) hκ (pl_ar hp 3 (by decide)) hn ((stM_o (by omega)).trans ((stM_o (by omega)).trans hc3)) (fun k hk => (stM_o (by omega)).trans ((stM_o (by omega)).trans ((hf3 _ _ (by omega)).trans (hL k hk))))
            refine S39_0 (r_10 := gst (cIF n Wf Pt U ii) (nI ii) n) hκ hp (by omega) (c40 hκ hp hn ((stM_o (by omega)).trans hc3) c0') c29' ⟨none, _, κ, rfl, ?_⟩
            refine w_weak (lle_u (lle_u (lle_u (lle_u lle_n)))) (S37_63 hκ hp (K _ (fun o x h => ?_) ?_))
            · rw [stM_n (by omega), stM_n (by omega), stM_n (by omega)]
              exact hf3 o x h
            · unfold MR
              rw [if_pos hgo, hm, if_pos hle]
              have e3 : ∀ v1 v2 v3 : Int32, stM (stM (stM M3 p 2 v1) p 3 v2) p 4 v3 (p + 3) = M3 (p + 3) := fun v1 v2 v3 => by
                rw [stM_ob (by omega), stM_ob (by omega), stM_ob (by omega)]
              have e4 : stM (stM M3 p 2 (nI ii)) p 3 (1 + gst (cIF n Wf Pt U ii) (nI ii) n) (p + 3) = M3 (p + 3) := by
                rw [stM_ob (by omega), stM_ob (by omega)]
              refine ⟨?_, ?_, ?_, ?_, ?_⟩
              · rw [stM_j (by decide), stM_j (by decide), stM_j (by decide), q1 _ _ (by omega)]
                exact hM
              · rw [stM_j (by decide), stM_j (by decide), stM_s]
              · rw [stM_j (by decide), stM_s, stM_j (by decide), stM_j (by decide), stM_s]
              · rw [stM_s, e4]
                exact endF_congr q2
              · rw [e3]
                exact q2
          · rw [if_neg h] at hm
            exact ih (ii + 1) M3 hd2 (by omega) hm hf3 ((q1 _ _ (by omega)).trans hM)
    refine main (len + 1 - miN n Wf Pt U) _ _ (by split <;> omega) (Nat.le_refl _) rfl (fun o x h => ?_) stM_s
    rw [stM_n (by omega)]
    exact (j1 o x (by omega)).trans (f1 o x h)
end SC
end P_40_sched2
