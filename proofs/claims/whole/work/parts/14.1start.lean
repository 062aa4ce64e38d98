/-! THE LAW'S ENTRY: from a run of the small machine to the walk of the law -/
section START
def M0 (xs : Nat → Int32) : Mem := fun k j => if k = 999 then xs j else 0
def K0 (L : Nat) : Kp := (L, fun _ => 0, false, 0, 0, 0)
theorem known_all {s : State} {args : Array Value} (hts : ∀ w ∈ GW, w.before args s = true) : ∃ D : va_G, ∀ c, c < 8 → u_Kn s (cn c) (tF c) (nf c) (D.1 c) (D.2 c) := by
  have h : ∀ c, ∃ (cC : ClassId) (iS : Nat → Nat), c < 8 → u_Kn s (cn c) (tF c) (nf c) cC iS := by
    intro c
    by_cases hc : c < 8
    · have hin := fun w hw => inW_in w (List.mem_flatMap.mpr ⟨c, List.mem_range.mpr hc, hw⟩)
      obtain ⟨cC, iS, hk⟩ := u_known (C := cn c) (T := tF c) (N := nf c) (n := nf c) hts (uw_in hc) (hts _ (hin _ List.mem_cons_self))
      exact ⟨cC, iS, fun _ => hk⟩
    · exact ⟨0, fun _ => 0, fun h => absurd h hc⟩
  exact ⟨(fun c => Classical.choose (h c), fun c => Classical.choose (Classical.choose_spec (h c))), fun c hc => Classical.choose_spec (Classical.choose_spec (h c)) hc⟩
theorem arr_known {s : State} {args : Array Value} {ty : FieldType} (h : (Cond.arrayClass ty).before args s = true) : ∃ c, ArrOfT s c ty ∧ s.vm.findClass ("[" ++ ty.toString) = some c := by
  obtain ⟨c, k, comp, h1, h2, h3⟩ := Cond.arrayClass_spec h
  exact ⟨c, fun n z => ⟨fun k9 h9 => (by cases h9), k, h2, comp, h3⟩, h1⟩
theorem arr_knownO {s : State} {args : Array Value} {C : String} (h : (Cond.arrayOver (.object C)).before args s = true) : ∃ c, ArrOfT s c (.object C) ∧ va_RA s c (.object C) := by
  obtain ⟨comp, c, k, h1, h2, h3, h4, h5⟩ := Cond.arrayOver_spec h
  exact ⟨c, fun n z => ⟨fun k9 h9 => (by cases h9), k, h3, comp, h4⟩, k, comp, h3, h4, h1, h5⟩
theorem nc_ok : ∀ e, e < 5 → ∀ e', e' < 5 → e ≠ e' → Jvm.Cond.not (.castable (ex e) (ex e')) ∈ flatC (Jvm.Cond.and given_1 narrow_1) := by decide +kernel
theorem ca_ok : ∀ e, e < 5 → Jvm.Cond.castable (ex e) (ex e) ∈ lw_tbl := by decide +kernel
theorem dc_ok : ∀ n ∈ dcL, Jvm.Cond.declares n ∈ lw_tbl := by decide +kernel
theorem st_ok : Jvm.Cond.laysStatic Bundle.tN "UNASSIGNED_STACK" Bundle.steD ∈ lw_tbl ∧ Jvm.Cond.laysStatic Bundle.tN "SUPPRESSED_SENTINEL" Bundle.listD ∈ lw_tbl ∧ Jvm.Cond.initialized Bundle.tN ∈ lw_tbl := by decide +kernel
theorem rf_ok : Jvm.Cond.isRef (.static Bundle.tN "UNASSIGNED_STACK" Bundle.steD) ∈ flatC (Jvm.Cond.and given_1 narrow_1) ∧ Jvm.Cond.isRef (.static Bundle.tN "SUPPRESSED_SENTINEL" Bundle.listD) ∈ flatC (Jvm.Cond.and given_1 narrow_1) := by decide +kernel
theorem start_facts {p : Program} {s : State} {m : MethodId} {meth : Method} {c : Code} {l : Launch} {b L : Nat} {xs : Nat → Int32} (C0 : lw_At p s m meth c b L xs) : ∃ (D : va_G) (cA : Nat → ClassId), KS D cA s (fun q => s.heap.size ≤ q) := by
  obtain ⟨hx, hb, hr, hml, hown, hts0, hX, hbl, hlocks, hgv⟩ := C0
  have hts : ∀ w ∈ GW, w.before #[Value.ref b] s = true := fun w hw => hts0 w (List.mem_filter.mp hw).1
  have hfl := flat_of_before _ hgv
  obtain ⟨D, hD⟩ := known_all hts
  have har : ∀ w ∈ arW, w.before #[Value.ref b] s = true := fun w hw => hts w (arW_in w hw)
  obtain ⟨cI, i1, i2⟩ := arr_known (har (.arrayClass .int) List.mem_cons_self)
  obtain ⟨cZ, z1, z2⟩ := arr_known (har (.arrayClass .boolean) (List.mem_cons_of_mem _ List.mem_cons_self))
  obtain ⟨cJ, j1, j2⟩ := arr_known (har (.arrayClass .long) (List.mem_cons_of_mem _ (List.mem_cons_of_mem _ List.mem_cons_self)))
  obtain ⟨cD, d1, d2⟩ := arr_known (har (.arrayClass .double) (List.mem_cons_of_mem _ (List.mem_cons_of_mem _ (List.mem_cons_of_mem _ List.mem_cons_self))))
  have ao1 := hts0 _ (aoW_in (.arrayOver (.object "BundleMill$Block")) List.mem_cons_self)
  have ao2 := hts0 _ (aoW_in (.arrayOver (.object "BundleMill$Plan")) (List.mem_cons_of_mem _ List.mem_cons_self))
  obtain ⟨cB, b1, b2⟩ := arr_knownO ao1
  obtain ⟨cP, p1, p2⟩ := arr_knownO ao2
  refine ⟨D, fun k => if k = 20 then cI else if k = 21 then cZ else if k = 22 then cB else if k = 23 then cP else if k = 24 then cJ else cD, ⟨fun k q hq => ?_, fun k q hq => ?_⟩, ⟨fun q hq => ?_, fun e he => ?_, fun n hn => ?_, fun e he e' he' hne => ?_, va_AO.of ao1, va_AO.of ao2⟩, ?_, ?_⟩
  · by_cases hk : k < 8
    · rw [cl8_get k hk] at hq
      cases hq
      exact hD k hk
    · rw [List.getElem?_eq_none (by simp; omega)] at hq
      cases hq
  · match k, hq with
    | 0, hq => cases hq; exact ⟨i1, i2⟩
    | 1, hq => cases hq; exact ⟨z1, z2⟩
    | 2, hq => cases hq; exact ⟨b1, b2⟩
    | 3, hq => cases hq; exact ⟨p1, p2⟩
    | 4, hq => cases hq; exact ⟨j1, j2⟩
    | 5, hq => cases hq; exact ⟨d1, d2⟩
    | k + 6, hq => simp at hq
  · exact va_Nw.of rfl (hts0 _ (nsW_in _ (List.mem_map.mpr ⟨q, hq, rfl⟩)))
  · exact va_Nw.of rfl (hts0 _ (ca_ok e he))
  · exact va_Nw.of rfl (hts0 _ (dc_ok n hn))
  · exact va_Nc.of (hfl _ (nc_ok e he e' he' hne))
  · exact vx_Zqof (hts0 _ st_ok.1) (hts0 _ st_ok.2.2) (hfl _ rf_ok.1) (fun q h1 h2 => absurd h1 (Nat.not_lt.mpr h2))
  · exact vx_Zqof (hts0 _ st_ok.2.1) (hts0 _ st_ok.2.2) (hfl _ rf_ok.2) (fun q h1 h2 => absurd h1 (Nat.not_lt.mpr h2))
theorem W_room {p : Program} {l : Launch} {e : Env} {R R' : Room} {s : State} {m : MethodId} {args : Array Value} {below : List Frame} {meth : Method} {c : Code} {H : Heap} {locs : List Loc} {cells slots : Nat} {Q : State → Prop} {g : JFrame} (h1 : R.frames ≤ R'.frames) (h2 : R.cells ≤ R'.cells) (h3 : R.slots ≤ R'.slots) (h4 : R.locals ≤ R'.locals) (k : W p l e R s m args below meth c H locs cells slots Q g) : W p l e R' s m args below meth c H locs cells slots Q g := by
  intro T hT X
  refine k T hT ⟨X.admits, X.cas, X.clock, X.frames, ?_, X.hears, X.method, X.code, X.here, X.tail, X.warmed, X.limits, X.bytes, X.same⟩
  have h := X.room
  simp only [State.hasRoom, Bool.and_eq_true, decide_eq_true_eq] at h ⊢
  obtain ⟨⟨⟨⟨g1, g2, g3, g4, g5, g6⟩, g7⟩, g8⟩, g9⟩ := h
  exact ⟨⟨⟨⟨by omega, by omega, by omega, by omega, by omega, g6⟩, by omega⟩, by omega⟩, g9⟩
/-- what is wanted of the small machine -/
def LawRun : Prop := ∀ (L : Nat) (xs : Nat → Int32), L ≤ 3584 → ∃ (M' : Mem) (κ' : Kp), Run 166 (0, entL 166 [.ref 999], [], M0 xs, K0 L) (.inl (some (.int 1)), M', κ') ∧ kC κ' ≤ 601024 ∧ kU κ' ≤ 7293034
theorem start_of_run (hrun : LawRun) {p : Program} {e : Env} {s : State} {m : MethodId} {below : List Frame} {meth : Method} {c : Code} (l : Launch) (hflags : l.flags = flags0) {b L : Nat} {xs : Nat → Int32} (hL : L ≤ 3584) (C0 : lw_At p s m meth c b L xs) : W p l e room_1 s m #[Value.ref b] below meth c s.heap [] 0 0 (lw_Z below #[Value.ref b] s) (entryFrame m ([Value.ref b] : List Value).toArray 9) := by
  obtain ⟨M', κ', hR, hc, hu⟩ := hrun L xs hL
  obtain ⟨D, cA, hK⟩ := start_facts (l := l) C0
  obtain ⟨hx, hb, hr, hml, hown, hts0, hX, hbl, hlocks, hgv⟩ := C0
  have hts : ∀ w ∈ GW, w.before #[Value.ref b] s = true := fun w hw => hts0 w (List.mem_filter.mp hw).1
  have hst : l.stackTraces = false := by
    unfold Launch.stackTraces
    rw [hflags]
    decide +kernel
  obtain ⟨a, ha⟩ : ∃ a : Nat → Nat, a = fun k => if k = 999 then b else s.heap.size + k := ⟨_, rfl⟩
  have ha1 : ∀ n, n < 180 → a (n + 1) = a n + 1 := by
    intro n hn
    rw [ha]
    dsimp only
    rw [if_neg (by omega), if_neg (by omega)]
    omega
  have ha9 : a 999 = b := by rw [ha]; rfl
  have ha0 : a 0 = s.heap.size := by rw [ha]; rfl
  have hS := run_sound (l := l) (D := D) (cA := cA) (a := a) ha1 hR
  have hF : FX 166 p l s m #[Value.ref b] meth c := ⟨hx, hb, hml, hr, hlocks, hown, fun h => absurd h (by decide), hts, fun h => absurd h (by decide), hst⟩
  have hM : M0 xs 999 = xs := by
    funext j
    simp [M0]
  have hRW : RW D cA a (M0 xs) (K0 L) (fun q => s.heap.size ≤ q) s s.heap := by
    refine ⟨fun k q h => ?_, ⟨fun i j p q h => ?_, fun k q h => ?_⟩, ?_, ?_, fun h => ?_, Nat.zero_le _⟩
    · have h9 : ([] : va_W)[k]? = some q := h; rw [List.getElem?_nil] at h9; cases h9
    · have h9 : ([] : va_W)[i]? = some p := h; rw [List.getElem?_nil] at h9; cases h9
    · have h9 : ([] : va_W)[k]? = some q := h; rw [List.getElem?_nil] at h9; cases h9
    · rw [ha9, hM]
      exact hX
    · rw [ha9]
      exact Nat.not_le.mpr hbl
    · cases h
  have hLV : LV a (entL 166 [.ref 999]) (mL 166) ((lg_sl ([.ref 999].map (mv a)) ++ List.replicate (mL 166 - (lg_sl ([.ref 999].map (mv a))).length) Slot.unset).toArray) := LV_entry (by decide) (by decide)
  have hW := hS.2 p e s m #[Value.ref b] below meth c hF (fun q => s.heap.size ≤ q) hK (fun q h => h) (by rw [ha9]; exact hbl) s.heap [] _ 0 0 (kC κ') (kU κ') hRW va_S.rf hLV (by dsimp only; simp [K0]) (by dsimp only; simp [K0]) (fun _ => ⟨by rw [Nat.add_zero]; exact ha0.symm, fun _ => rfl⟩)
  have hmv : ([.ref 999] : List Value).map (mv a) = [.ref b] := by
    simp [mv, ha9]
  rw [hmv] at hW
  rw [lg_entry_eq]
  have hW2 := W_room (R' := room_1) (show rf 166 ≤ 11 by decide) (show kC κ' ≤ 601024 from hc) (show kU κ' ≤ 7293034 from hu) (show rl 166 ≤ 392 by decide) hW
  intro T hT X
  obtain ⟨t, st, o, g1, g2, g3⟩ := hW2 T hT X
  refine ⟨t, st, o, g1, g2, ?_⟩
  rcases g3 with ⟨⟨⟨v, hv1, hv2⟩, -, -⟩, L9, ⟨f1, f2, f3⟩, f4⟩ | ⟨q, -, E, ce, L9, ⟨⟨⟨x9, hx9, -⟩, -⟩, -⟩⟩
  · cases hv1
    refine ⟨hv2, ?_⟩
    have f5 : s.sameButNew ({ t with vm := s.vm } : State) ([] ++ L9) (kC κ') (kU κ') := by rw [List.nil_append]; exact f3
    have f6 := (f5.drop_fresh (fun x hx => f4 x hx)).mono hc hu
    exact lw_closed (d0 := s.drawn) (Drawn.sameBut.refl s.drawn lw_cs) f1 f2 f6
  · cases hx9
end START
