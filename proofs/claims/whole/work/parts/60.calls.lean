/-! the law: each call keeps class and model together -/
section P_60_calls
variable {Q : Ou → Prop} {M M0 : Mem} {κ : Kp}
/-- class and model at rest, together -/
def LVs (M : Mem) : Prop := ∃ g mp cf tu tr r, GOk g ∧ MpOk mp ∧ r.2.2.1 ≤ 1000 ∧ CI g mp cf tu tr r M ∧ MI g mp cf tu tr r M
def kap (κ κ' : Kp) : Prop := kL κ' = kL κ ∧ Rd κ' ∧ kC κ' ≤ kC κ + 1 ∧ kU κ' ≤ kU κ + 6
abbrev kO (κ : Kp) (k : Nat) (v : UInt64) : Kp := (κ.1, stX (kX κ) k v, κ.2.2)
theorem kap_r (hκ : Rd κ) : kap κ κ := ⟨rfl, hκ, Nat.le_succ _, Nat.le_add_right _ _⟩
theorem kap_T (hκ : Rd κ) : kap κ (kT κ) := ⟨rfl, hκ, Nat.le_refl _, Nat.le_refl _⟩
theorem kap_O (hκ : Rd κ) (k : Nat) (v : UInt64) : kap κ (kO κ k v) := ⟨rfl, hκ, Nat.le_succ _, Nat.le_add_right _ _⟩
theorem c94 (hκ : Rd κ) {w : Int32} (h : M 134 0 = w) : Run 94 (0, entL 94 [.ref 134], [], M, κ) (.inl (some (.int w)), M, κ) := RT_run (S94_0 hκ h rfl)
theorem lg_self (x : Int64) : lg_cmp x x = 0 := by
  have h : ¬ x > x := Int64.lt_irrefl
  unfold lg_cmp
  rw [if_neg h, if_pos rfl]
theorem lgO (k : Nat) (v : Int64) : lg_cmp ((kX (kO κ k v.toUInt64) k).toInt64) v = 0 := by
  have e : kX (kO κ k v.toUInt64) k = v.toUInt64 := if_pos rfl
  rw [e]
  exact lg_self v
section LC
variable {g : Gs} {mp : Mp} {cf : Bool} {tu : Nat} {tr : Bool} {r : Rs} {M' : Mem} {i : Nat}
theorem MI_cl2 (h6 : gN g ≤ 6) (hf : ∀ x j, 134 ≤ x → M' x j = M x j) (hp : ∀ z, z < 6 → ∀ x j, 19 + 18 * z ≤ x → x ≤ 22 + 18 * z → M' x j = M x j) (h : MI g mp cf tu tr r M) : MI g mp cf tu tr r M' := by
  obtain ⟨h1, h2, h3, h4, h5⟩ := h
  refine ⟨GMd_eq h6 (hf _ _ (by omega)) (fun x j hx => hf x j (by omega)) h1, MMp_eq (fun j _ => hf _ _ (by omega)) h2, (hf _ _ (by omega)).trans h3, MEn_eq (fun j _ _ => hf _ _ (by omega)) (fun x j hx => hf x j (by omega)) h4, fun z => ?_⟩
  obtain ⟨m1, m2, m3⟩ := h5 z
  refine ⟨(hf _ _ (by omega)).trans m1, MRl_eq (fun x j hx => hf x j (by omega)) m2, fun x hx hg => ?_⟩
  obtain ⟨w1, w2, w3, w4, w5⟩ := m3 x hx hg
  have hpx := hp x (by omega)
  refine ⟨fun k hk => ?_, ?_, ?_, ?_, ?_⟩
  · obtain ⟨b1, b2, b3⟩ := w1 k hk
    exact ⟨(hf _ _ (by omega)).trans (b1.trans (hpx _ _ (by omega) (by omega)).symm), (hf _ _ (by omega)).trans (b2.trans (hpx _ _ (by omega) (by omega)).symm), (hf _ _ (by omega)).trans (b3.trans (hpx _ _ (by omega) (by omega)).symm)⟩
  · exact (hf _ _ (by omega)).trans (w2.trans (hpx _ _ (by omega) (by omega)).symm)
  · exact (hf _ _ (by omega)).trans (w3.trans (hpx _ _ (by omega) (by omega)).symm)
  · exact (hf _ _ (by omega)).trans (w4.trans (hpx _ _ (by omega) (by omega)).symm)
  · exact (hf _ _ (by omega)).trans (w5.trans (hpx _ _ (by omega) (by omega)).symm)
theorem L120 (hκ : Rd κ) (hi : i ≤ 100000) (hv : ∀ j, j ≤ 6 → vp_in (nI (i + j)) (kL κ)) (hV : LVs M) (K : ∀ M' κ', kap κ κ' → LVs M' → RT 166 (1075, [.ref 999, .ref 0, .ref 134, .ref 178, .ref 179, .int (nI i), UU, UU, UU], [], M', κ') Q) : RT 166 (120, [.ref 999, .ref 0, .ref 134, .ref 178, .ref 179, .int (nI i), UU, UU, UU], [], M, κ) Q := by
  obtain ⟨g, mp, cf, tu, tr, r, hg, hm, ho, hI, hJ⟩ := hV
  have hT : Rd (kT κ) := hκ
  refine S166_120 hκ hi (hv 1 (by decide)) (hv 2 (by decide)) (hv 3 (by decide)) (hv 4 (by decide)) (hv 5 (by decide)) (hv 6 (by decide)) (S152_0 hκ (f65 hκ hg.1 hI (fun a => .inr ⟨_, _, _, 1, 0, 16, rfl, by decide, _, _, _, rfl, S166_161 hT hi (hv 1 (by decide)) (hv 2 (by decide)) (hv 3 (by decide)) (hv 4 (by decide)) (hv 5 (by decide)) (hv 6 (by decide)) ?_⟩) (fun a M1 hf hp hI1 => .inl ⟨_, _, _, rfl, S152_13 hκ ⟨_, _, _, rfl, S166_161 hκ hi (hv 1 (by decide)) (hv 2 (by decide)) (hv 3 (by decide)) (hv 4 (by decide)) (hv 5 (by decide)) (hv 6 (by decide)) ?_⟩⟩)))
  · exact f97 hT hg.1 hJ (fun _ => (fun M2 hf2 h0 hJ2 => ⟨_, _, _, rfl, S166_204 hT hi (c94 hT h0) (fun _ => K _ _ (kap_T hκ) ⟨g, mp, cf, tu, tr, r, hg, hm, ho, CI_md hg.1 hf2 hI, hJ2⟩) (fun z => absurd rfl z)⟩)) (fun b => Bool.noConfusion (a.symm.trans b))
  · have e : ∀ j, M1 999 j = M 999 j := fun j => hf 999 j (by omega)
    simp only [e]
    exact f97 hκ hg.1 (MI_cl2 hg.1 hf hp hJ) (fun b => Bool.noConfusion (a.symm.trans b)) (fun _ => (fun M2 hf2 h0 hJ2 => ⟨_, _, _, rfl, S166_204 hκ hi (c94 hκ h0) (fun _ => K _ _ (kap_r hκ) ⟨g, mpF _ _ _ _ _ _, false, tu, tr, r, hg, mpF_ok a, ho, CI_md hg.1 hf2 hI1, hJ2⟩) (fun z => absurd rfl z)⟩))
theorem L428 (hκ : Rd κ) (hi : i ≤ 100000) (hv : ∀ j, j ≤ 6 → vp_in (nI (i + j)) (kL κ)) (hV : LVs M) (K : ∀ M' κ', kap κ κ' → LVs M' → RT 166 (1075, [.ref 999, .ref 0, .ref 134, .ref 178, .ref 179, .int (nI i), UU, UU, UU], [], M', κ') Q) : RT 166 (428, [.ref 999, .ref 0, .ref 134, .ref 178, .ref 179, .int (nI i), UU, UU, UU], [], M, κ) Q := by
  obtain ⟨g, mp, cf, tu, tr, r, hg, hm, ho, hI, hJ⟩ := hV
  have hT : Rd (kT κ) := hκ
  refine S166_428 hκ hi (f68 hκ hI (fun M1 hf hp hI1 => ⟨_, _, _, rfl, S166_432 hκ hi (f100 hκ (MI_cl2 hg.1 hf hp hJ) (fun M2 hf2 hJ2 => ⟨_, _, _, rfl, S166_436 hκ hi (K _ _ (kap_r hκ) ⟨gZ g, mp, false, tu, tr, r, ⟨Nat.zero_le 6, fun z hz => absurd hz (Nat.not_lt_zero z)⟩, hm, ho, CI_md (Nat.zero_le 6) hf2 hI1, hJ2⟩)⟩))⟩))
theorem L439 (hκ : Rd κ) (hi : i ≤ 100000) (hv : ∀ j, j ≤ 6 → vp_in (nI (i + j)) (kL κ)) (hV : LVs M) (K : ∀ M' κ', kap κ κ' → LVs M' → RT 166 (1075, [.ref 999, .ref 0, .ref 134, .ref 178, .ref 179, .int (nI i), UU, UU, UU], [], M', κ') Q) : RT 166 (439, [.ref 999, .ref 0, .ref 134, .ref 178, .ref 179, .int (nI i), UU, UU, UU], [], M, κ) Q := by
  obtain ⟨g, mp, cf, tu, tr, r, hg, hm, ho, hI, hJ⟩ := hV
  have hT : Rd (kT κ) := hκ
  refine S166_439 hκ hi (hv 1 (by decide)) (hv 2 (by decide)) (f69 hκ hg.1 hI (fun M1 hf hI1 => ⟨_, _, _, rfl, S166_455 hκ hi (hv 1 (by decide)) (hv 2 (by decide)) ?_⟩))
  have e : ∀ j, M1 999 j = M 999 j := fun j => hf 999 j (by omega)
  simp only [e]
  exact f101 hκ hg.1 (MI_cl hg.1 (fun x j h => hf x j (.inl h)) (fun _ x j h => hf x j (.inr h)) hJ) (fun M2 hf2 hJ2 => ⟨_, _, _, rfl, S166_471 hκ hi (K _ _ (kap_r hκ) ⟨g, mp, cf, tu, tr, pkR r _ _, hg, hm, ho, CI_md hg.1 hf2 hI1, hJ2⟩)⟩)
theorem L474 (hκ : Rd κ) (hi : i ≤ 100000) (hv : ∀ j, j ≤ 6 → vp_in (nI (i + j)) (kL κ)) (hV : LVs M) (K : ∀ M' κ', kap κ κ' → LVs M' → RT 166 (1075, [.ref 999, .ref 0, .ref 134, .ref 178, .ref 179, .int (nI i), UU, UU, UU], [], M', κ') Q) : RT 166 (474, [.ref 999, .ref 0, .ref 134, .ref 178, .ref 179, .int (nI i), UU, UU, UU], [], M, κ) Q := by
  obtain ⟨g, mp, cf, tu, tr, r, hg, hm, ho, hI, hJ⟩ := hV
  have hT : Rd (kT κ) := hκ
  refine S166_474 hκ hi (hv 1 (by decide)) (f70 hκ hI ⟨_, _, _, rfl, S166_484 hκ hi (hv 1 (by decide)) ?_⟩)
  exact f102 hκ hg.1 hJ (fun M2 hf2 hJ2 => ⟨_, _, _, rfl, S166_494 hκ hi (fun _ => K _ _ (kap_r hκ) ⟨g, mp, cf, tu, tr, r, hg, hm, ho, CI_md hg.1 hf2 hI, hJ2⟩) (fun z => absurd rfl z)⟩)
theorem L218 (hκ : Rd κ) (hi : i ≤ 100000) (hv : ∀ j, j ≤ 6 → vp_in (nI (i + j)) (kL κ)) (hV : LVs M) (K : ∀ M' κ', kap κ κ' → LVs M' → RT 166 (1075, [.ref 999, .ref 0, .ref 134, .ref 178, .ref 179, .int (nI i), UU, UU, UU], [], M', κ') Q) : RT 166 (218, [.ref 999, .ref 0, .ref 134, .ref 178, .ref 179, .int (nI i), UU, UU, UU], [], M, κ) Q := by
  obtain ⟨g, mp, cf, tu, tr, r, hg, hm, ho, hI, hJ⟩ := hV
  have hT : Rd (kT κ) := hκ
  refine S166_218 hκ hi (hv 1 (by decide)) (hv 2 (by decide)) (hv 3 (by decide)) (hv 4 (by decide)) (S153_0 hκ (f66 hκ hg hI (fun a => .inr ⟨_, _, _, 1, 0, 17, rfl, by decide, _, _, _, rfl, S166_247 hT hi (hv 1 (by decide)) (hv 2 (by decide)) (hv 3 (by decide)) (hv 4 (by decide)) ?_⟩) (fun a a2 => .inr ⟨_, _, _, 2, 1, 21, rfl, by decide, _, _, _, rfl, S166_247 hT hi (hv 1 (by decide)) (hv 2 (by decide)) (hv 3 (by decide)) (hv 4 (by decide)) ?_⟩) (fun a a2 M1 hf hp hI1 => .inl ⟨_, _, _, rfl, S153_12 hκ ⟨_, _, _, rfl, S166_247 (κ := kO κ 178 _) hκ hi (hv 1 (by decide)) (hv 2 (by decide)) (hv 3 (by decide)) (hv 4 (by decide)) ?_⟩⟩)))
  · exact f98 hT hg hJ (fun _ => (fun M2 hf2 h0 hJ2 => ⟨_, _, _, rfl, S166_277 hT hi (c94 hT h0) (fun _ _ => K _ _ (kap_T hκ) ⟨g, mp, cf, tu, tr, r, hg, hm, ho, CI_md hg.1 hf2 hI, hJ2⟩) (fun _ z => absurd z (by decide)) (fun z => absurd rfl z)⟩)) (fun b => Bool.noConfusion (a.symm.trans b)) (fun b => Bool.noConfusion (a.symm.trans b))
  · exact f98 hT hg hJ (fun b => Bool.noConfusion (a.symm.trans b)) (fun _ _ => (fun M2 hf2 h0 hJ2 => ⟨_, _, _, rfl, S166_277 hT hi (c94 hT h0) (fun _ _ => K _ _ (kap_T hκ) ⟨g, mp, cf, tu, tr, r, hg, hm, ho, CI_md hg.1 hf2 hI, hJ2⟩) (fun _ z => absurd z (by decide)) (fun z => absurd rfl z)⟩)) (fun _ b => absurd b a2)
  · have e : ∀ j, M1 999 j = M 999 j := fun j => hf 999 j (by omega)
    simp only [e]
    have hg1 := gB_ok hg a2 a
    exact f98 (κ := kO κ 178 _) hκ hg (MI_cl2 hg.1 hf hp hJ) (fun b => Bool.noConfusion (a.symm.trans b)) (fun _ b => absurd a2 b) (fun _ _ => (fun M2 hf2 h0 hJ2 => ⟨_, _, _, rfl, S166_277 (κ := kO κ 178 _) hκ hi (c94 (κ := kO κ 178 _) hκ h0) (fun _ _ => K _ _ (kap_O hκ _ _) ⟨gB g _ _ _ _, mp, false, tu, tr, r, hg1, hm, ho, CI_md hg1.1 hf2 hI1, hJ2⟩) (fun _ _ z => absurd (lgO _ _) z) (fun z => absurd rfl z)⟩))
theorem L310 (hκ : Rd κ) (hi : i ≤ 100000) (hv : ∀ j, j ≤ 6 → vp_in (nI (i + j)) (kL κ)) (hV : LVs M) (K : ∀ M' κ', kap κ κ' → LVs M' → RT 166 (1075, [.ref 999, .ref 0, .ref 134, .ref 178, .ref 179, .int (nI i), UU, UU, UU], [], M', κ') Q) : RT 166 (310, [.ref 999, .ref 0, .ref 134, .ref 178, .ref 179, .int (nI i), UU, UU, UU], [], M, κ) Q := by
  obtain ⟨g, mp, cf, tu, tr, r, hg, hm, ho, hI, hJ⟩ := hV
  have hT : Rd (kT κ) := hκ
  refine S166_310 hκ hi (hv 1 (by decide)) (hv 2 (by decide)) (hv 3 (by decide)) (hv 4 (by decide)) (hv 5 (by decide)) (hv 6 (by decide)) (S154_0 hκ (f67 hκ hg hI (fun a => .inr ⟨_, _, _, 1, 0, 21, rfl, by decide, _, _, _, rfl, S166_352 hT hi (hv 1 (by decide)) (hv 2 (by decide)) (hv 3 (by decide)) (hv 4 (by decide)) (hv 5 (by decide)) (hv 6 (by decide)) ?_⟩) (fun a a2 => .inr ⟨_, _, _, 2, 1, 25, rfl, by decide, _, _, _, rfl, S166_352 hT hi (hv 1 (by decide)) (hv 2 (by decide)) (hv 3 (by decide)) (hv 4 (by decide)) (hv 5 (by decide)) (hv 6 (by decide)) ?_⟩) (fun a q e1 a2 M1 hf hp hI1 => .inl ⟨_, _, _, rfl, S154_16 hκ ⟨_, _, _, rfl, S166_352 (κ := kO κ 178 _) hκ hi (hv 1 (by decide)) (hv 2 (by decide)) (hv 3 (by decide)) (hv 4 (by decide)) (hv 5 (by decide)) (hv 6 (by decide)) ?_⟩⟩)))
  · exact f99 hT hg hJ (fun _ => (fun M2 hf2 h0 hJ2 => ⟨_, _, _, rfl, S166_395 hT hi (c94 hT h0) (fun _ _ => K _ _ (kap_T hκ) ⟨g, mp, cf, tu, tr, r, hg, hm, ho, CI_md hg.1 hf2 hI, hJ2⟩) (fun _ z => absurd z (by decide)) (fun z => absurd rfl z)⟩)) (fun b => Bool.noConfusion (a.symm.trans b)) (fun b => Bool.noConfusion (a.symm.trans b))
  · exact f99 hT hg hJ (fun b => Bool.noConfusion (a.symm.trans b)) (fun _ _ => (fun M2 hf2 h0 hJ2 => ⟨_, _, _, rfl, S166_395 hT hi (c94 hT h0) (fun _ _ => K _ _ (kap_T hκ) ⟨g, mp, cf, tu, tr, r, hg, hm, ho, CI_md hg.1 hf2 hI, hJ2⟩) (fun _ z => absurd z (by decide)) (fun z => absurd rfl z)⟩)) (fun _ q b1 b2 => absurd a2 (by
      rw [b1, Nat.add_sub_cancel]
      omega))
  · have e : ∀ j, M1 999 j = M 999 j := fun j => hf 999 j (by omega)
    simp only [e]
    have hg1 := gP_ok (p4 := M 999 (nI (i + 5)).toNatClampNeg) hg (show q < gN g by omega) a2 a
    refine f99 (κ := kO κ 178 _) hκ hg (MI_cl2 hg.1 hf hp hJ) (fun b => Bool.noConfusion (a.symm.trans b)) (fun _ b => absurd b (by
      rw [e1, Nat.add_sub_cancel]
      omega)) (fun _ q2 b1 b2 => ?_)
    have eq : q2 = q := by omega
    subst eq
    exact (fun M2 hf2 h0 hJ2 => ⟨_, _, _, rfl, S166_395 (κ := kO κ 178 _) hκ hi (c94 (κ := kO κ 178 _) hκ h0) (fun _ _ => K _ _ (kap_O hκ _ _) ⟨gP g q2 _ _ _ _ _ _, mp, false, tu, tr, r, hg1, hm, ho, CI_md hg1.1 hf2 hI1, hJ2⟩) (fun _ _ z => absurd (lgO _ _) z) (fun z => absurd rfl z)⟩)
theorem L499 (hκ : Rd κ) (hi : i ≤ 100000) (hv : ∀ j, j ≤ 6 → vp_in (nI (i + j)) (kL κ)) (hV : LVs M) (K : ∀ M' κ', kap κ κ' → LVs M' → RT 166 (1075, [.ref 999, .ref 0, .ref 134, .ref 178, .ref 179, .int (nI i), UU, UU, UU], [], M', κ') Q) : RT 166 (499, [.ref 999, .ref 0, .ref 134, .ref 178, .ref 179, .int (nI i), UU, UU, UU], [], M, κ) Q := by
  obtain ⟨g, mp, cf, tu, tr, r, hg, hm, ho, hI, hJ⟩ := hV
  have hT : Rd (kT κ) := hκ
  obtain ⟨j1, j2, j3, j4, j5⟩ := hJ
  have hJ : MI g mp cf tu tr r M := ⟨j1, j2, j3, j4, j5⟩
  refine S166_499 hκ hi (S155_0 hκ (F71 hκ hg hm hI (fun a => .inr ⟨_, _, _, 1, 0, 11, rfl, by decide, _, _, _, rfl, S166_504 hT hi ?_⟩) (fun a a2 => .inr ⟨_, _, _, 2, 1, 14, rfl, by decide, _, _, _, rfl, S166_504 hT hi ?_⟩) (fun a a2 a3 => .inr ⟨_, _, _, 3, 2, 17, rfl, by decide, _, _, _, rfl, S166_504 hT hi ?_⟩) (fun a a2 a3 M1 hf hI1 => .inl ⟨_, _, _, rfl, S155_6 hκ ⟨_, _, _, rfl, S166_504 (κ := kO κ 178 _) hκ hi ?_⟩⟩)))
  · exact F108 hT hg hm j1 j2 j4 (fun b => absurd a b) (fun _ => ⟨_, _, _, rfl, S166_510 hT hi (c94 hT stM_s) (fun _ _ => K _ _ (kap_T hκ) ⟨g, mp, cf, tu, tr, r, hg, hm, ho, CI_md hg.1 (fun x j hx => stM_o (by omega)) hI, MI_th hg.1 hJ⟩) (fun _ z => absurd z (by decide)) (fun z => absurd rfl z)⟩) (fun b => absurd a b) (fun b => absurd a b) (fun b => absurd a b)
  · exact F108 hT hg hm j1 j2 j4 (fun _ b => Bool.noConfusion (a2.symm.trans b)) (fun b => absurd b a) (fun _ _ => ⟨_, _, _, rfl, S166_510 hT hi (c94 hT stM_s) (fun _ _ => K _ _ (kap_T hκ) ⟨g, mp, cf, tu, tr, r, hg, hm, ho, CI_md hg.1 (fun x j hx => stM_o (by omega)) hI, MI_th hg.1 hJ⟩) (fun _ z => absurd z (by decide)) (fun z => absurd rfl z)⟩) (fun _ b => Bool.noConfusion (a2.symm.trans b)) (fun _ b => Bool.noConfusion (a2.symm.trans b))
  · exact F108 hT hg hm j1 j2 j4 (fun _ _ b => Bool.noConfusion (a3.symm.trans b)) (fun b => absurd b a) (fun _ b => Bool.noConfusion (a2.symm.trans b)) (fun _ _ _ => ⟨_, _, _, rfl, S166_510 hT hi (c94 hT stM_s) (fun _ _ => K _ _ (kap_T hκ) ⟨g, mp, cf, tu, tr, r, hg, hm, ho, CI_md hg.1 (fun x j hx => stM_o (by omega)) hI, MI_th hg.1 hJ⟩) (fun _ z => absurd z (by decide)) (fun z => absurd rfl z)⟩) (fun _ _ b => Bool.noConfusion (a3.symm.trans b))
  · have hC : CCp g mp M1 := by
      obtain ⟨o, o2, h1, h2, h3, h4, h5, h6', h7, h8, h9, ha, hb, hc⟩ := hI1
      exact hc rfl
    exact F108 (κ := kO κ 178 _) hκ hg hm (GMd_eq hg.1 (hf _ _ (by omega)) (fun x j hx => hf x j (by omega)) j1) (MMp_eq (fun j _ => hf _ _ (by omega)) j2) (MEn_eq (fun j _ _ => hf _ _ (by omega)) (fun x j hx => hf x j (by omega)) j4) (fun _ _ _ => hC) (fun b => absurd b a) (fun _ b => Bool.noConfusion (a2.symm.trans b)) (fun _ _ b => Bool.noConfusion (a3.symm.trans b)) (fun _ _ _ => (fun M2 hf2 h0 hJ2 => ⟨_, _, _, rfl, S166_510 (κ := kO κ 178 _) hκ hi (c94 (κ := kO κ 178 _) hκ h0) (fun _ _ => K _ _ (kap_O hκ _ _) ⟨g, mp, true, tu, tr, r, hg, hm, ho, CI_md hg.1 hf2 hI1, hJ2⟩) (fun _ _ z => absurd (lgO _ _) z) (fun z => absurd rfl z)⟩))
theorem L543 (hκ : Rd κ) (hi : i ≤ 100000) (hv : ∀ j, j ≤ 6 → vp_in (nI (i + j)) (kL κ)) (hV : LVs M) (K : ∀ M' κ', kap κ κ' → LVs M' → RT 166 (1075, [.ref 999, .ref 0, .ref 134, .ref 178, .ref 179, .int (nI i), UU, UU, UU], [], M', κ') Q) : RT 166 (543, [.ref 999, .ref 0, .ref 134, .ref 178, .ref 179, .int (nI i), UU, UU, UU], [], M, κ) Q := by
  obtain ⟨g, mp, cf, tu, tr, r, hg, hm, ho, hI, hJ⟩ := hV
  have hT : Rd (kT κ) := hκ
  have hCp : cf = true → CCp g mp M := by
    obtain ⟨o, o2, h1, h2, h3, h4, h5, h6', h7, h8, h9, ha, hb, hc⟩ := hI
    exact hc
  have hqq : ∃ qq : Nat → Pq, cf = true → ∀ x, x < gN g → (s1 g).2.2.2.1 x = false → PN M ((s1 g).1 x) ((s1 g).2.2.1 x) (LtO mp ((s1 g).2.2.2.2 x)) (19 + 18 * x) (qq x) := by
    cases cf with
    | false => exact ⟨fun _ => (0, 0, 0, 0, fun _ => 0, fun _ => 0), fun z => by cases z⟩
    | true =>
      obtain ⟨qq, h⟩ := qq_of hm hg (hCp rfl)
      exact ⟨qq, fun _ => h⟩
  obtain ⟨qq, hq⟩ := hqq
  refine S166_543 hκ hi (S156_0 hκ (F72 (qq := qq) hκ hg hI hq (fun a => .inr ⟨_, _, _, 1, 0, 11, rfl, by decide, _, _, _, rfl, S166_548 hT hi ?_⟩) (fun a a2 M1 hf hI1 => .inr ⟨_, _, _, 2, 1, 14, rfl, by decide, _, _, _, rfl, S166_548 hT hi ?_⟩) (fun a c tu' tr' r' a2 ht ho' M1 hf hI1 => .inl ⟨_, _, _, rfl, S156_6 hκ ⟨_, _, _, rfl, S166_548 (κ := kO κ 178 _) hκ hi ?_⟩⟩)))
  · exact F142 (qq := qq) hT hg hm hJ (fun b => ⟨(hCp b).1, (hCp b).2.1⟩) hq (fun _ => (fun M2 hf2 h0 hJ2 => ⟨_, _, _, rfl, S166_554 hT hi (c94 hT h0) (fun _ _ => K _ _ (kap_T hκ) ⟨g, mp, cf, tu, tr, r, hg, hm, ho, CI_md hg.1 hf2 hI, hJ2⟩) (fun _ z => absurd z (by decide)) (fun z => absurd rfl z)⟩)) (fun b => Bool.noConfusion (a.symm.trans b)) (fun b => Bool.noConfusion (a.symm.trans b))
  · have hJ1 := MI_cl hg.1 (fun x j h => hf x j (.inl h)) (fun _ x j h => hf x j (.inr h)) hJ
    exact F142 (qq := qq) hT hg hm hJ1 (fun b => ⟨(hCp b).1, (hCp b).2.1⟩) (fun b x hx hgo => PN_fr (pl_of (by have := hg.1; omega)) (fun y j h1 h2 => hf y j (.inr ⟨h1, h2⟩)) (hq b x hx hgo)) (fun b => Bool.noConfusion (a.symm.trans b)) (fun _ _ => (fun M2 hf2 h0 hJ2 => ⟨_, _, _, rfl, S166_554 hT hi (c94 hT h0) (fun _ _ => K _ _ (kap_T hκ) ⟨g, mp, cf, tu, tr, r, hg, hm, ho, CI_md hg.1 hf2 hI1, hJ2⟩) (fun _ z => absurd z (by decide)) (fun z => absurd rfl z)⟩)) (fun _ c tu' tr' r' b => by rw [a2] at b; cases b)
  · have hJ1 := MI_cl hg.1 (fun x j h => hf x j (.inl h)) (fun _ x j h => hf x j (.inr h)) hJ
    refine F142 (qq := qq) (κ := kO κ 178 _) hκ hg hm hJ1 (fun b => ⟨(hCp b).1, (hCp b).2.1⟩) (fun b x hx hgo => PN_fr (pl_of (by have := hg.1; omega)) (fun y j h1 h2 => hf y j (.inr ⟨h1, h2⟩)) (hq b x hx hgo)) (fun b => Bool.noConfusion (a.symm.trans b)) (fun _ b => by rw [a2] at b; cases b) (fun _ c2 tu2 tr2 r2 b => ?_)
    rw [a2] at b
    cases b
    exact (fun M2 hf2 h0 hJ2 => ⟨_, _, _, rfl, S166_554 (κ := kO κ 178 _) hκ hi (c94 (κ := kO κ 178 _) hκ h0) (fun _ _ => K _ _ (kap_O hκ _ _) ⟨g, mp, cf, tu', tr', r', hg, hm, ho', CI_md hg.1 hf2 hI1, hJ2⟩) (fun _ _ z => absurd (lgO _ _) z) (fun z => absurd rfl z)⟩)
theorem L587 (hκ : Rd κ) (hi : i ≤ 100000) (hv : ∀ j, j ≤ 6 → vp_in (nI (i + j)) (kL κ)) (hV : LVs M) (K : ∀ M' κ', kap κ κ' → LVs M' → RT 166 (1075, [.ref 999, .ref 0, .ref 134, .ref 178, .ref 179, .int (nI i), UU, UU, UU], [], M', κ') Q) : RT 166 (587, [.ref 999, .ref 0, .ref 134, .ref 178, .ref 179, .int (nI i), UU, UU, UU], [], M, κ) Q := by
  obtain ⟨g, mp, cf, tu, tr, r, hg, hm, ho, hI, hJ⟩ := hV
  have hT : Rd (kT κ) := hκ
  refine S166_587 hκ hi (hv 1 (by decide)) (S157_0 hκ (F73 hκ hI (fun a => .inr ⟨_, _, _, 1, 0, 12, rfl, by decide, _, _, _, rfl, S166_598 hT hi (hv 1 (by decide)) ?_⟩) (fun a => .inl ⟨_, _, _, rfl, S157_7 hκ ⟨_, _, _, rfl, S166_598 (κ := kO κ 178 _) hκ hi (hv 1 (by decide)) ?_⟩⟩)))
  · exact F144 hT hg.1 hJ (fun _ => (fun M2 hf2 h0 hJ2 => ⟨_, _, _, rfl, S166_610 hT hi (c94 hT h0) (fun _ _ => K _ _ (kap_T hκ) ⟨g, mp, cf, tu, tr, r, hg, hm, ho, CI_md hg.1 hf2 hI, hJ2⟩) (fun _ z => absurd z (by decide)) (fun z => absurd rfl z)⟩)) (fun b => Bool.noConfusion (a.symm.trans b))
  · exact F144 (κ := kO κ 178 _) hκ hg.1 hJ (fun b => Bool.noConfusion (a.symm.trans b)) (fun _ => (fun M2 hf2 h0 hJ2 => ⟨_, _, _, rfl, S166_610 (κ := kO κ 178 _) hκ hi (c94 (κ := kO κ 178 _) hκ h0) (fun _ _ => K _ _ (kap_O hκ _ _) ⟨g, mp, cf, tu, tr, r, hg, hm, ho, CI_md hg.1 hf2 hI, hJ2⟩) (fun _ _ z => absurd (lgO _ _) z) (fun z => absurd rfl z)⟩))
theorem L643 (hκ : Rd κ) (hi : i ≤ 100000) (hv : ∀ j, j ≤ 6 → vp_in (nI (i + j)) (kL κ)) (hV : LVs M) (K : ∀ M' κ', kap κ κ' → LVs M' → RT 166 (1075, [.ref 999, .ref 0, .ref 134, .ref 178, .ref 179, .int (nI i), UU, UU, UU], [], M', κ') Q) : RT 166 (643, [.ref 999, .ref 0, .ref 134, .ref 178, .ref 179, .int (nI i), UU, UU, UU], [], M, κ) Q := by
  obtain ⟨g, mp, cf, tu, tr, r, hg, hm, ho, hI, hJ⟩ := hV
  have hT : Rd (kT κ) := hκ
  refine S166_643 hκ hi (hv 1 (by decide)) (S158_0 hκ (F74 hκ ho hI (fun a => .inr ⟨_, _, _, 1, 0, 12, rfl, by decide, _, _, _, rfl, S166_654 hT hi (hv 1 (by decide)) ?_⟩) (fun a => .inl ⟨_, _, _, rfl, S158_7 hκ ⟨_, _, _, rfl, S166_654 (κ := kO κ 178 _) hκ hi (hv 1 (by decide)) ?_⟩⟩)))
  · exact F145 hT hg.1 ho hJ (fun _ => (fun M2 hf2 h0 hJ2 => ⟨_, _, _, rfl, S166_666 hT hi (c94 hT h0) (fun _ _ => K _ _ (kap_T hκ) ⟨g, mp, cf, tu, tr, r, hg, hm, ho, CI_md hg.1 hf2 hI, hJ2⟩) (fun _ z => absurd z (by decide)) (fun z => absurd rfl z)⟩)) (fun b => Bool.noConfusion (a.symm.trans b))
  · exact F145 (κ := kO κ 178 _) hκ hg.1 ho hJ (fun b => Bool.noConfusion (a.symm.trans b)) (fun _ => (fun M2 hf2 h0 hJ2 => ⟨_, _, _, rfl, S166_666 (κ := kO κ 178 _) hκ hi (c94 (κ := kO κ 178 _) hκ h0) (fun _ _ => K _ _ (kap_O hκ _ _) ⟨g, mp, cf, tu, tr, r, hg, hm, ho, CI_md hg.1 hf2 hI, hJ2⟩) (fun _ _ z => absurd (lgO _ _) z) (fun z => absurd rfl z)⟩))
theorem L699 (hκ : Rd κ) (hi : i ≤ 100000) (hv : ∀ j, j ≤ 6 → vp_in (nI (i + j)) (kL κ)) (hV : LVs M) (K : ∀ M' κ', kap κ κ' → LVs M' → RT 166 (1075, [.ref 999, .ref 0, .ref 134, .ref 178, .ref 179, .int (nI i), UU, UU, UU], [], M', κ') Q) : RT 166 (699, [.ref 999, .ref 0, .ref 134, .ref 178, .ref 179, .int (nI i), UU, UU, UU], [], M, κ) Q := by
  obtain ⟨g, mp, cf, tu, tr, r, hg, hm, ho, hI, hJ⟩ := hV
  have hT : Rd (kT κ) := hκ
  refine S166_699 hκ hi (hv 1 (by decide)) (S159_0 hκ (F75 hκ hI (fun a => .inr ⟨_, _, _, 1, 0, 12, rfl, by decide, _, _, _, rfl, S166_710 hT hi (hv 1 (by decide)) ?_⟩) (fun a => .inl ⟨_, _, _, rfl, S159_7 hκ ⟨_, _, _, rfl, S166_710 (κ := kO κ 178 _) hκ hi (hv 1 (by decide)) ?_⟩⟩)))
  · exact F146 hT hg.1 hJ (fun _ => (fun M2 hf2 h0 hJ2 => ⟨_, _, _, rfl, S166_722 hT hi (c94 hT h0) (fun _ _ => K _ _ (kap_T hκ) ⟨g, mp, cf, tu, tr, r, hg, hm, ho, CI_md hg.1 hf2 hI, hJ2⟩) (fun _ z => absurd z (by decide)) (fun z => absurd rfl z)⟩)) (fun b => Bool.noConfusion (a.symm.trans b))
  · exact F146 (κ := kO κ 178 _) hκ hg.1 hJ (fun b => Bool.noConfusion (a.symm.trans b)) (fun _ => (fun M2 hf2 h0 hJ2 => ⟨_, _, _, rfl, S166_722 (κ := kO κ 178 _) hκ hi (c94 (κ := kO κ 178 _) hκ h0) (fun _ _ => K _ _ (kap_O hκ _ _) ⟨g, mp, cf, tu, tr, r, hg, hm, ho, CI_md hg.1 hf2 hI, hJ2⟩) (fun _ _ z => absurd (lgO _ _) z) (fun z => absurd rfl z)⟩))
theorem L755 (hκ : Rd κ) (hi : i ≤ 100000) (hv : ∀ j, j ≤ 6 → vp_in (nI (i + j)) (kL κ)) (hV : LVs M) (K : ∀ M' κ', kap κ κ' → LVs M' → RT 166 (1075, [.ref 999, .ref 0, .ref 134, .ref 178, .ref 179, .int (nI i), UU, UU, UU], [], M', κ') Q) : RT 166 (755, [.ref 999, .ref 0, .ref 134, .ref 178, .ref 179, .int (nI i), UU, UU, UU], [], M, κ) Q := by
  obtain ⟨g, mp, cf, tu, tr, r, hg, hm, ho, hI, hJ⟩ := hV
  have hT : Rd (kT κ) := hκ
  have hCp : cf = true → CCp g mp M := by
    obtain ⟨o, o2, h1, h2, h3, h4, h5, h6', h7, h8, h9, ha, hb, hc⟩ := hI
    exact hc
  have hqq : ∃ qq : Nat → Pq, cf = true → ∀ x, x < gN g → (s1 g).2.2.2.1 x = false → PN M ((s1 g).1 x) ((s1 g).2.2.1 x) (LtO mp ((s1 g).2.2.2.2 x)) (19 + 18 * x) (qq x) := by
    cases cf with
    | false => exact ⟨fun _ => (0, 0, 0, 0, fun _ => 0, fun _ => 0), fun z => by cases z⟩
    | true =>
      obtain ⟨qq, h⟩ := qq_of hm hg (hCp rfl)
      exact ⟨qq, fun _ => h⟩
  obtain ⟨qq, hq⟩ := hqq
  refine S166_755 hκ hi (hv 1 (by decide)) (hv 2 (by decide)) (S160_0 hκ (F76 hκ hg hI (fun a => .inr ⟨_, _, _, 1, 0, 13, rfl, by decide, _, _, _, rfl, S166_772 hT hi (hv 1 (by decide)) (hv 2 (by decide)) ?_⟩) (fun a a2 => .inr ⟨_, _, _, 2, 1, 17, rfl, by decide, _, _, _, rfl, S166_772 hT hi (hv 1 (by decide)) (hv 2 (by decide)) ?_⟩) (fun a a2 a3 => .inr ⟨_, _, _, 3, 2, 21, rfl, by decide, _, _, _, rfl, S166_772 hT hi (hv 1 (by decide)) (hv 2 (by decide)) ?_⟩) (fun a a2 a3 => .inl ⟨_, _, _, rfl, S160_8 hκ ⟨_, _, _, rfl, S166_772 (κ := kO κ 178 _) hκ hi (hv 1 (by decide)) (hv 2 (by decide)) ?_⟩⟩)))
  · exact F148 hT hg hJ (fun _ M2 hf2 h0 hJ2 => by
      rw [a] at h0
      exact ⟨_, _, _, rfl, S166_790 hT hi (c94 hT h0) (fun _ _ => K _ _ (kap_T hκ) ⟨g, mp, cf, tu, tr, r, hg, hm, ho, CI_md hg.1 hf2 hI, hJ2⟩) (fun _ z => absurd z (by decide)) (fun z => absurd rfl z)⟩) (fun b => Bool.noConfusion (a.symm.trans b))
  · exact F148 hT hg hJ (fun _ M2 hf2 h0 hJ2 => by
      rw [a, a2] at h0
      exact ⟨_, _, _, rfl, S166_790 hT hi (c94 hT h0) (fun _ _ => K _ _ (kap_T hκ) ⟨g, mp, cf, tu, tr, r, hg, hm, ho, CI_md hg.1 hf2 hI, hJ2⟩) (fun _ z => absurd z (by decide)) (fun z => absurd rfl z)⟩) (fun _ b => Bool.noConfusion (a2.symm.trans b))
  · exact F148 hT hg hJ (fun _ M2 hf2 h0 hJ2 => by
      rw [a, a2, a3] at h0
      exact ⟨_, _, _, rfl, S166_790 hT hi (c94 hT h0) (fun _ _ => K _ _ (kap_T hκ) ⟨g, mp, cf, tu, tr, r, hg, hm, ho, CI_md hg.1 hf2 hI, hJ2⟩) (fun _ z => absurd z (by decide)) (fun z => absurd rfl z)⟩) (fun _ _ b => Bool.noConfusion (a3.symm.trans b))
  · exact F148 (κ := kO κ 178 _) hκ hg hJ (fun b => absurd (by rw [a, a2, a3]; rfl) b) (fun _ _ _ => (fun M2 hf2 h0 hJ2 => ⟨_, _, _, rfl, S166_790 (κ := kO κ 178 _) hκ hi (c94 (κ := kO κ 178 _) hκ h0) (fun _ _ => K _ _ (kap_O hκ _ _) ⟨g, mp, cf, tu, tr, r, hg, hm, ho, CI_md hg.1 hf2 hI, hJ2⟩) (fun _ _ z => absurd (lgO _ _) z) (fun z => absurd rfl z)⟩))
theorem L823 (hκ : Rd κ) (hi : i ≤ 100000) (hv : ∀ j, j ≤ 6 → vp_in (nI (i + j)) (kL κ)) (hV : LVs M) (K : ∀ M' κ', kap κ κ' → LVs M' → RT 166 (1075, [.ref 999, .ref 0, .ref 134, .ref 178, .ref 179, .int (nI i), UU, UU, UU], [], M', κ') Q) : RT 166 (823, [.ref 999, .ref 0, .ref 134, .ref 178, .ref 179, .int (nI i), UU, UU, UU], [], M, κ) Q := by
  obtain ⟨g, mp, cf, tu, tr, r, hg, hm, ho, hI, hJ⟩ := hV
  have hT : Rd (kT κ) := hκ
  have hCp : cf = true → CCp g mp M := by
    obtain ⟨o, o2, h1, h2, h3, h4, h5, h6', h7, h8, h9, ha, hb, hc⟩ := hI
    exact hc
  have hqq : ∃ qq : Nat → Pq, cf = true → ∀ x, x < gN g → (s1 g).2.2.2.1 x = false → PN M ((s1 g).1 x) ((s1 g).2.2.1 x) (LtO mp ((s1 g).2.2.2.2 x)) (19 + 18 * x) (qq x) := by
    cases cf with
    | false => exact ⟨fun _ => (0, 0, 0, 0, fun _ => 0, fun _ => 0), fun z => by cases z⟩
    | true =>
      obtain ⟨qq, h⟩ := qq_of hm hg (hCp rfl)
      exact ⟨qq, fun _ => h⟩
  obtain ⟨qq, hq⟩ := hqq
  have hmi : cf = true → miss g = false := fun b => (hCp b).2.1
  refine S166_823 hκ hi (hv 1 (by decide)) (hv 2 (by decide)) (hv 3 (by decide)) (S161_0 hκ (F77 hκ hg hI (fun a => .inr ⟨_, _, _, 1, 0, 15, rfl, by decide, _, _, _, rfl, S166_846 hT hi (hv 1 (by decide)) (hv 2 (by decide)) (hv 3 (by decide)) ?_⟩) (fun a a2 => .inr ⟨_, _, _, 2, 1, 19, rfl, by decide, _, _, _, rfl, S166_846 hT hi (hv 1 (by decide)) (hv 2 (by decide)) (hv 3 (by decide)) ?_⟩) (fun a a2 a3 => .inr ⟨_, _, _, 2, 1, 19, rfl, by decide, _, _, _, rfl, S166_846 hT hi (hv 1 (by decide)) (hv 2 (by decide)) (hv 3 (by decide)) ?_⟩) (fun a a2 a3 a4 => .inr ⟨_, _, _, 3, 2, 23, rfl, by decide, _, _, _, rfl, S166_846 hT hi (hv 1 (by decide)) (hv 2 (by decide)) (hv 3 (by decide)) ?_⟩) (fun a a2 a3 a4 => .inl ⟨_, _, _, rfl, S161_10 hκ ⟨_, _, _, rfl, S166_846 (κ := kO κ 178 _) hκ hi (hv 1 (by decide)) (hv 2 (by decide)) (hv 3 (by decide)) ?_⟩⟩)))
  · exact F149 hT hg hJ hmi (fun _ M2 hf2 h0 hJ2 => by
      rw [a] at h0
      exact ⟨_, _, _, rfl, S166_870 hT hi (c94 hT h0) (fun _ _ => K _ _ (kap_T hκ) ⟨g, mp, cf, tu, tr, r, hg, hm, ho, CI_md hg.1 hf2 hI, hJ2⟩) (fun _ z => absurd z (by decide)) (fun z => absurd rfl z)⟩) (fun b => Bool.noConfusion (a.symm.trans b))
  · exact F149 hT hg hJ hmi (fun _ M2 hf2 h0 hJ2 => by
      rw [a, a2] at h0
      exact ⟨_, _, _, rfl, S166_870 hT hi (c94 hT h0) (fun _ _ => K _ _ (kap_T hκ) ⟨g, mp, cf, tu, tr, r, hg, hm, ho, CI_md hg.1 hf2 hI, hJ2⟩) (fun _ z => absurd z (by decide)) (fun z => absurd rfl z)⟩) (fun _ b => Bool.noConfusion (a2.symm.trans b))
  · exact F149 hT hg hJ hmi (fun _ M2 hf2 h0 hJ2 => by
      rw [a, a2, a3] at h0
      exact ⟨_, _, _, rfl, S166_870 hT hi (c94 hT h0) (fun _ _ => K _ _ (kap_T hκ) ⟨g, mp, cf, tu, tr, r, hg, hm, ho, CI_md hg.1 hf2 hI, hJ2⟩) (fun _ z => absurd z (by decide)) (fun z => absurd rfl z)⟩) (fun _ _ b => Bool.noConfusion (a3.symm.trans b))
  · exact F149 hT hg hJ hmi (fun _ M2 hf2 h0 hJ2 => by
      rw [a, a2, a3, a4] at h0
      exact ⟨_, _, _, rfl, S166_870 hT hi (c94 hT h0) (fun _ _ => K _ _ (kap_T hκ) ⟨g, mp, cf, tu, tr, r, hg, hm, ho, CI_md hg.1 hf2 hI, hJ2⟩) (fun _ z => absurd z (by decide)) (fun z => absurd rfl z)⟩) (fun _ _ _ b => Bool.noConfusion (a4.symm.trans b))
  · exact F149 (κ := kO κ 178 _) hκ hg hJ hmi (fun b => absurd (by rw [a, a2, a3, a4]; rfl) b) (fun _ _ _ _ => (fun M2 hf2 h0 hJ2 => ⟨_, _, _, rfl, S166_870 (κ := kO κ 178 _) hκ hi (c94 (κ := kO κ 178 _) hκ h0) (fun _ _ => K _ _ (kap_O hκ _ _) ⟨g, mp, cf, tu, tr, r, hg, hm, ho, CI_md hg.1 hf2 hI, hJ2⟩) (fun _ _ z => absurd (lgO _ _) z) (fun z => absurd rfl z)⟩))
end LC
end P_60_calls
