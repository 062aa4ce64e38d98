/-! the law: bundle, filled, and the loop -/
section P_61_loop
theorem fd3 : ∀ n, n < 11 → ∀ s, s < 481 → 0 < s → Op.cmpValue (FP.dcmp (FP.ddiv (FP.i2d (nI n)) (FP.i2d (nI s))) (FP.ddiv (FP.i2d (nI n)) (FP.i2d (nI s)))) .l = 0 := by decide +kernel
theorem fd4 : Op.cmpValue (FP.dcmp 0 0) .l = 0 := by decide +kernel
variable {Q : Ou → Prop} {M M0 : Mem} {κ : Kp}
section LD
variable {i : Nat}
theorem flS_self {mp : Mp} {e : Int32} {n p : Nat} {L : Nat → Int32} {q : Pq} (hm : MpOk mp) (hn : n ≤ 10) (h : PN M e n L p q) : Op.cmpValue (FP.dcmp (flS mp q n) (flS mp q n)) .l = 0 := by
  obtain ⟨r1, r2⟩ := rwF_pos h
  have hu1 := hm.1
  have hu2 := hm.2.1
  unfold flS
  by_cases z : n = 0
  · rw [if_pos z]
    exact fd4
  · rw [if_neg z]
    have hsl : rwF q * (mp.1 false + mp.1 true) ≤ 80 * 6 := Nat.mul_le_mul r1 (by omega)
    have h0 : 0 < rwF q * (mp.1 false + mp.1 true) := Nat.mul_pos (by omega) (by omega)
    exact fd3 n (by omega) _ (by omega) h0
theorem L903 (hκ : Rd κ) (hi : i ≤ 100000) (hv : ∀ j, j ≤ 6 → vp_in (nI (i + j)) (kL κ)) (hV : LVs M) (K : ∀ M' κ', kap κ κ' → LVs M' → RT 166 (1075, [.ref 999, .ref 0, .ref 134, .ref 178, .ref 179, .int (nI i), UU, UU, UU], [], M', κ') Q) : RT 166 (903, [.ref 999, .ref 0, .ref 134, .ref 178, .ref 179, .int (nI i), UU, UU, UU], [], M, κ) Q := by
  obtain ⟨g, mp, cf, tu, tr, r, hg, hm, ho, hI, hJ⟩ := hV
  have hT : Rd (kT κ) := hκ
  have hCp : cf = true → CCp g mp M := by
    obtain ⟨o, o2, h1, h2, h3, h4, h5, h6', h7, h8, h9, ha, hb, hc⟩ := hI
    exact hc
  have hqq : ∃ qq : Nat → Pq, cf = true → ∀ x, x < gN g → (s1 g).2.2.2.1 x = false → PN M ((s1 g).1 x) ((s1 g).2.2.1 x) (LtO mp ((s1 g).2.2.2.2 x)) (19 + 18 * x) (qq x) := by
    cases cf with
    | false => exact ⟨fun _ => (0, 0, 0, 0, fun _ => 0, fun _ => 0), fun z => by cases z⟩
    | true =>
      obtain ⟨qq, h⟩ := qq_of hm hg (hCp rfl)
      exact ⟨qq, fun _ => h⟩
  obtain ⟨qq, hq⟩ := hqq
  have hmi : cf = true → miss g = false := fun b => (hCp b).2.1
  refine S166_903 hκ hi (hv 1 (by decide)) (hv 2 (by decide)) (hv 3 (by decide)) (S162_0 hκ (F78 (qq := qq) hκ hg hI hq (fun a => .inr ⟨_, _, _, 1, 0, 14, rfl, by decide, _, _, _, rfl, S166_934 hT hi (hv 1 (by decide)) (hv 2 (by decide)) (hv 3 (by decide)) ?_⟩) (fun a a2 => .inr ⟨_, _, _, 2, 1, 18, rfl, by decide, _, _, _, rfl, S166_934 hT hi (hv 1 (by decide)) (hv 2 (by decide)) (hv 3 (by decide)) ?_⟩) (fun a a2 a3 => .inr ⟨_, _, _, 3, 2, 22, rfl, by decide, _, _, _, rfl, S166_934 hT hi (hv 1 (by decide)) (hv 2 (by decide)) (hv 3 (by decide)) ?_⟩) (fun a a2 a3 => .inl ⟨_, _, _, rfl, S162_10 hκ ⟨_, _, _, rfl, S166_934 (κ := kO κ 178 _) hκ hi (hv 1 (by decide)) (hv 2 (by decide)) (hv 3 (by decide)) ?_⟩⟩)))
  · exact F150 (qq := qq) hT hg hJ hmi hq (fun _ M2 hf2 h0 hJ2 => by
      rw [a] at h0
      exact ⟨_, _, _, rfl, S166_966 hT hi (c94 hT h0) (fun _ _ => K _ _ (kap_T hκ) ⟨g, mp, cf, tu, tr, r, hg, hm, ho, CI_md hg.1 hf2 hI, hJ2⟩) (fun _ z => absurd z (by decide)) (fun z => absurd rfl z)⟩) (fun b => Bool.noConfusion (a.symm.trans b))
  · exact F150 (qq := qq) hT hg hJ hmi hq (fun _ M2 hf2 h0 hJ2 => by
      rw [a, a2] at h0
      exact ⟨_, _, _, rfl, S166_966 hT hi (c94 hT h0) (fun _ _ => K _ _ (kap_T hκ) ⟨g, mp, cf, tu, tr, r, hg, hm, ho, CI_md hg.1 hf2 hI, hJ2⟩) (fun _ z => absurd z (by decide)) (fun z => absurd rfl z)⟩) (fun _ b => Bool.noConfusion (a2.symm.trans b))
  · exact F150 (qq := qq) hT hg hJ hmi hq (fun _ M2 hf2 h0 hJ2 => by
      rw [a, a2, a3] at h0
      exact ⟨_, _, _, rfl, S166_966 hT hi (c94 hT h0) (fun _ _ => K _ _ (kap_T hκ) ⟨g, mp, cf, tu, tr, r, hg, hm, ho, CI_md hg.1 hf2 hI, hJ2⟩) (fun _ z => absurd z (by decide)) (fun z => absurd rfl z)⟩) (fun _ _ b => Bool.noConfusion (a3.symm.trans b))
  · exact F150 (qq := qq) (κ := kO κ 178 _) hκ hg hJ hmi hq (fun b => absurd (by rw [a, a2, a3]; rfl) b) (fun _ _ _ => (fun M2 hf2 h0 hJ2 => ⟨_, _, _, rfl, S166_966 (κ := kO κ 178 _) hκ hi (c94 (κ := kO κ 178 _) hκ h0) (fun _ _ => K _ _ (kap_O hκ _ _) ⟨g, mp, cf, tu, tr, r, hg, hm, ho, CI_md hg.1 hf2 hI, hJ2⟩) (fun _ _ z => absurd (lgO _ _) z) (fun z => absurd rfl z)⟩))
theorem L998 (hκ : Rd κ) (hi : i ≤ 100000) (hv : ∀ j, j ≤ 6 → vp_in (nI (i + j)) (kL κ)) (hV : LVs M) (K : ∀ M' κ', kap κ κ' → LVs M' → RT 166 (1075, [.ref 999, .ref 0, .ref 134, .ref 178, .ref 179, .int (nI i), UU, UU, UU], [], M', κ') Q) : RT 166 (998, [.ref 999, .ref 0, .ref 134, .ref 178, .ref 179, .int (nI i), UU, UU, UU], [], M, κ) Q := by
  obtain ⟨g, mp, cf, tu, tr, r, hg, hm, ho, hI, hJ⟩ := hV
  have hT : Rd (kT κ) := hκ
  have hCp : cf = true → CCp g mp M := by
    obtain ⟨o, o2, h1, h2, h3, h4, h5, h6', h7, h8, h9, ha, hb, hc⟩ := hI
    exact hc
  have hqq : ∃ qq : Nat → Pq, cf = true → ∀ x, x < gN g → (s1 g).2.2.2.1 x = false → PN M ((s1 g).1 x) ((s1 g).2.2.1 x) (LtO mp ((s1 g).2.2.2.2 x)) (19 + 18 * x) (qq x) := by
    cases cf with
    | false => exact ⟨fun _ => (0, 0, 0, 0, fun _ => 0, fun _ => 0), fun z => by cases z⟩
    | true =>
      obtain ⟨qq, h⟩ := qq_of hm hg (hCp rfl)
      exact ⟨qq, fun _ => h⟩
  obtain ⟨qq, hq⟩ := hqq
  have hmi : cf = true → miss g = false := fun b => (hCp b).2.1
  refine S166_998 hκ hi (hv 1 (by decide)) (S163_0 hκ (F79 (qq := qq) hκ hg hm hI hq (fun a => .inr ⟨_, _, _, 1, 0, 11, rfl, by decide, _, _, _, rfl, S166_1010 hT hi (hv 1 (by decide)) ?_⟩) (fun a a2 => .inr ⟨_, _, _, 2, 1, 14, rfl, by decide, _, _, _, rfl, S166_1010 hT hi (hv 1 (by decide)) ?_⟩) (fun a a2 => .inl ⟨_, _, _, rfl, S163_7 hκ ⟨_, _, _, rfl, S166_1010 (κ := kO κ 179 _) hκ hi (hv 1 (by decide)) ?_⟩⟩)))
  · exact F151 (qq := qq) hT hg hm hJ hmi hq (fun _ M2 hf2 h0 hJ2 => by
      rw [a] at h0
      exact ⟨_, _, _, rfl, S166_1022 hT hi (c94 hT h0) (fun _ _ => K _ _ (kap_T hκ) ⟨g, mp, cf, tu, tr, r, hg, hm, ho, CI_md hg.1 hf2 hI, hJ2⟩) (fun _ z => absurd z (by decide)) (fun _ z => absurd z (by decide)) (fun z => absurd rfl z)⟩) (fun b => Bool.noConfusion (a.symm.trans b))
  · exact F151 (qq := qq) hT hg hm hJ hmi hq (fun _ M2 hf2 h0 hJ2 => by
      rw [a, a2] at h0
      exact ⟨_, _, _, rfl, S166_1022 hT hi (c94 hT h0) (fun _ _ => K _ _ (kap_T hκ) ⟨g, mp, cf, tu, tr, r, hg, hm, ho, CI_md hg.1 hf2 hI, hJ2⟩) (fun _ z => absurd z (by decide)) (fun _ z => absurd z (by decide)) (fun z => absurd rfl z)⟩) (fun _ b => Bool.noConfusion (a2.symm.trans b))
  · refine F151 (qq := qq) (κ := kO κ 179 _) hκ hg hm hJ hmi hq (fun b => absurd (by rw [a, a2]; rfl) b) (fun _ _ M2 hf2 h0 hJ2 => ?_)
    have h6 := hg.1
    obtain ⟨q1, q2⟩ := okX_iff.mp a2
    have hs := flS_self hm ((SIv1 hg (hmi a)).1 _ (by omega)).2.2.2.2.1 (hq a _ (by omega) q2)
    refine ⟨_, _, _, rfl, S166_1022 (κ := kO κ 179 _) hκ hi (c94 (κ := kO κ 179 _) hκ h0) (fun _ _ => K _ _ (kap_O hκ _ _) ⟨g, mp, cf, tu, tr, r, hg, hm, ho, CI_md hg.1 hf2 hI, hJ2⟩) (fun _ _ z => absurd hs z) (fun _ _ z => absurd hs z) (fun z => absurd rfl z)⟩
theorem vpL {a L : Nat} (hL : L ≤ 4000) (h : a < L) : vp_in (nI a) L := vp_in_nI h (by omega)
theorem law_loop {A B : Nat} : ∀ d i (M : Mem) (κ : Kp), Rd κ → LVs M → kL κ ≤ 3584 → kL κ ≤ i + 7 * d → i ≤ 3584 → kC κ + d ≤ A → kU κ + 6 * d ≤ B → RT 166 (28, [.ref 999, .ref 0, .ref 134, .ref 178, .ref 179, .int (nI i), UU, UU, UU], [], M, κ) (fun o => ∃ M' κ', o = (.inl (some (.int 1)), M', κ') ∧ kC κ' ≤ A ∧ kU κ' ≤ B) := fun d => by
  induction d with
  | zero =>
    intro i M κ hκ hV hL hd hi hA hB
    have hx : (Int32.ofNat (kL κ)) - 7 < nI i := by
      have e : (Int32.ofNat (kL κ) - 7).toInt = kL κ - 7 := by
        rw [show Int32.ofNat (kL κ) = nI (kL κ) from rfl, l_sub (by rw [nI_toInt (by omega)]; omega) (by decide), nI_toInt (by omega)]
        rfl
      rw [ltI, e, nI_toInt (by omega)]
      omega
    refine S166_28 hκ (by omega) (fun z => absurd hx z) (fun _ => ⟨M, κ, rfl, by omega, by omega⟩) ?_ ?_ ?_ ?_ ?_ ?_ ?_ ?_ ?_ ?_ ?_ ?_ ?_ ?_ ?_ ?_
    all_goals exact fun z => absurd hx z
  | succ d ih =>
    intro i M κ hκ hV hL hd hi hA hB
    have e : (Int32.ofNat (kL κ) - 7).toInt = kL κ - 7 := by
      rw [show Int32.ofNat (kL κ) = nI (kL κ) from rfl, l_sub (by rw [nI_toInt (by omega)]; omega) (by decide), nI_toInt (by omega)]
      rfl
    have hlt : (Int32.ofNat (kL κ)) - 7 < nI i ↔ (kL κ : Int) < i + 7 := by
      rw [ltI, e, nI_toInt (by omega)]
      omega
    have hi5 : i ≤ 100000 := by omega
    have hv : ¬ (Int32.ofNat (kL κ)) - 7 < nI i → ∀ j, j ≤ 6 → vp_in (nI (i + j)) (kL κ) := fun z j hj => by
      rw [hlt] at z
      exact vpL (by omega) (by omega)
    have K : ¬ (Int32.ofNat (kL κ)) - 7 < nI i → ∀ M' κ', kap κ κ' → LVs M' → RT 166 (1075, [.ref 999, .ref 0, .ref 134, .ref 178, .ref 179, .int (nI i), UU, UU, UU], [], M', κ') (fun o => ∃ M' κ', o = (.inl (some (.int 1)), M', κ') ∧ kC κ' ≤ A ∧ kU κ' ≤ B) := fun z M' κ' hk hV' => by
      rw [hlt] at z
      obtain ⟨k1, k2, k3, k4⟩ := hk
      exact S166_1075 k2 hi5 (ih (i + 7) M' κ' k2 hV' (by omega) (by omega) (by omega) (by omega) (by omega))
    exact S166_28 hκ hi5 (fun z => hv z 0 (by decide)) (fun _ => ⟨M, κ, rfl, by omega, by omega⟩) (fun z _ => L120 hκ hi5 (hv z) hV (K z)) (fun z _ _ => L218 hκ hi5 (hv z) hV (K z)) (fun z _ _ _ => L310 hκ hi5 (hv z) hV (K z)) (fun z _ _ _ _ => L428 hκ hi5 (hv z) hV (K z)) (fun z _ _ _ _ _ => L439 hκ hi5 (hv z) hV (K z)) (fun z _ _ _ _ _ _ => L474 hκ hi5 (hv z) hV (K z)) (fun z _ _ _ _ _ _ _ => L499 hκ hi5 (hv z) hV (K z)) (fun z _ _ _ _ _ _ _ _ => L543 hκ hi5 (hv z) hV (K z)) (fun z _ _ _ _ _ _ _ _ _ => L587 hκ hi5 (hv z) hV (K z)) (fun z _ _ _ _ _ _ _ _ _ _ => L643 hκ hi5 (hv z) hV (K z)) (fun z _ _ _ _ _ _ _ _ _ _ _ => L699 hκ hi5 (hv z) hV (K z)) (fun z _ _ _ _ _ _ _ _ _ _ _ _ => L755 hκ hi5 (hv z) hV (K z)) (fun z _ _ _ _ _ _ _ _ _ _ _ _ _ => L823 hκ hi5 (hv z) hV (K z)) (fun z _ _ _ _ _ _ _ _ _ _ _ _ _ _ => L903 hκ hi5 (hv z) hV (K z)) (fun z _ _ _ _ _ _ _ _ _ _ _ _ _ _ _ => L998 hκ hi5 (hv z) hV (K z)) (fun z _ _ _ _ _ _ _ _ _ _ _ _ _ _ _ => K z _ _ (kap_r hκ) hV)
end LD
end P_61_loop
