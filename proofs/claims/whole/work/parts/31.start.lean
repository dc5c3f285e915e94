/-! what holds at the law's entry, in the words of 'am' -/
theorem st_nm : ∀ q ∈ am_nm, Cond.methodLinkNest q.1 q.2.1 q.2.2 "StateKeeper" ∈ lw_tbl := by decide +kernel
theorem st_nf : ∀ q ∈ am_nf, Cond.fieldLinkNest q.1 q.2.1 q.2.2.1 q.2.2.2.1 q.2.2.2.2 "StateKeeper" ∈ lw_tbl := by decide +kernel
theorem st_str : ∀ q ∈ am_str, Cond.stringRef RX3 q.1 q.2 ∈ lw_tbl := by decide +kernel
theorem st_c : ∀ q ∈ am_c, Cond.castable q q ∈ lw_tbl := by decide +kernel
theorem st_d : ∀ q ∈ am_d, Cond.declares q ∈ lw_tbl := by decide +kernel
theorem zq_at {C n d : String} {s : State} {aT : Nat} (h : vx_Zq C n d (fun q => s.heap.size ≤ q) s s.heap) (hu : ∀ (c : ClassId) (k : Class) (a : Nat), s.vm.findClass C = some c → s.vm.classes[c]? = some k → k.statics = some a → a = aT) : vx_Zq C n d (fun q => q ≠ aT) s s.heap := by
  obtain ⟨hz, c, k, i, f, a, cell, l1, l2, l3, l4, l5, l6, l7, l8, l9, l10⟩ := h
  have ea : a = aT := hu c k a l1 (State.fieldFound?_spec l2).1 l4
  have key : ∀ v : Value, va_Z C n d v (fun q => s.heap.size ≤ q) s s.heap → va_Z C n d v (fun q => q ≠ aT) s s.heap := by
    intro v hv
    obtain ⟨cf, kf, fi, f2, a2, cell2, g1, g2, g3, g4, g5, g6, g7, g8⟩ := hv
    cases Option.some.inj (g1.symm.trans l2)
    have e2 : a2 = a := Option.some.inj (g4.symm.trans l4)
    exact ⟨_, _, _, _, a2, cell2, g1, g2, g3, g4, g5, g6, g7, fun q => q (e2.trans ea)⟩
  refine ⟨?_, c, k, i, f, a, cell, l1, l2, l3, l4, l5, l6, l7, l8, l9, fun q => q ea⟩
  rcases hz with hz | ⟨t, hz⟩
  · exact Or.inl (key _ hz)
  · exact Or.inr ⟨t, key _ hz⟩
theorem arr_at {args : Array Value} {s : State} {t : FieldType} (h : (Cond.arrayClass t).before args s = true) (ht : ∀ C, t ≠ .object C) : ∃ c, ArrOfT s c t ∧ va_RA s c t := by
  obtain ⟨c, k, comp, h1, h2, h3⟩ := Cond.arrayClass_spec h
  refine ⟨c, fun n z => ⟨fun k h => (by cases h), k, h2, comp, h3⟩, ?_⟩
  cases t with
  | object C => exact absurd rfl (ht C)
  | _ => exact h1
set_option maxRecDepth 100000 in
set_option maxHeartbeats 4000000 in
theorem law_am {p : Program} {s : State} {m : MethodId} {meth : Method} {c : Code} {b L : Nat} {xs : Nat → Int32} {l : Launch} (hl0 : l.stackTraces = false) (C0 : lw_At p s m meth c b L xs) : ∃ (D : va_G) (cI cF cQ cJ cD : ClassId) (aT : Nat), am l D cI cF cQ aT s ∧ va_K D vwCl (tysJ cJ cD) s := by
  obtain ⟨hx, hb, hr, hml, hown, hts, hX, hbl, hlocks, hgv⟩ := id C0
  obtain ⟨c0, i0, k0⟩ := u_known (C := RX0) (T := TX0) (N := 4) (n := 4) hts inX0 (hts (.instantiable RX0 4) (by decide +kernel))
  obtain ⟨c1, i1, k1⟩ := u_known (C := RX1) (T := TX1) (N := 5) (n := 5) hts inX1 (hts (.instantiable RX1 5) (by decide +kernel))
  obtain ⟨c2, i2, k2⟩ := u_known (C := RX2) (T := TX2) (N := 4) (n := 4) hts inX2 (hts (.instantiable RX2 4) (by decide +kernel))
  obtain ⟨c3, i3, k3⟩ := u_known (C := RX3) (T := TX3) (N := 7) (n := 7) hts inX3 (hts (.instantiable RX3 7) (by decide +kernel))
  obtain ⟨c4, i4, k4⟩ := u_known (C := RX4) (T := TX4) (N := 18) (n := 18) hts inX4 (hts (.instantiable RX4 18) (by decide +kernel))
  obtain ⟨dC, dI, hKc⟩ : ∃ (dC : Nat → ClassId) (dI : Nat → Nat → Nat), ∀ (k : Nat) (q : vw_C), vwCl[k]? = some q → u_Kn s q.1 q.2.1 q.2.2 (dC k) (dI k) := by
    refine ⟨fun k => if k = 0 then c0 else if k = 1 then c1 else if k = 2 then c2 else if k = 3 then c3 else c4, fun k => if k = 0 then i0 else if k = 1 then i1 else if k = 2 then i2 else if k = 3 then i3 else i4, ?_⟩
    intro k q hq
    match k, hq with
    | 0, hq => cases hq; exact k0
    | 1, hq => cases hq; exact k1
    | 2, hq => cases hq; exact k2
    | 3, hq => cases hq; exact k3
    | 4, hq => cases hq; exact k4
    | k + 5, hq => cases hq
  obtain ⟨cI, aI⟩ := arr_at (t := .int) (hts (.arrayClass .int) (by decide +kernel)) (fun C h => by cases h)
  obtain ⟨cF, aF⟩ := arr_at (t := .float) (hts (.arrayClass .float) (by decide +kernel)) (fun C h => by cases h)
  obtain ⟨cJ, aJ⟩ := arr_at (t := .long) (hts (.arrayClass .long) (by decide +kernel)) (fun C h => by cases h)
  obtain ⟨cD, aD⟩ := arr_at (t := .double) (hts (.arrayClass .double) (by decide +kernel)) (fun C h => by cases h)
  have hov : (Cond.arrayOver (.array .float)).before #[Value.ref b] s = true := hts (.arrayOver (.array .float)) (by decide +kernel)
  obtain ⟨comp, cQ, kQ, -, -, o3, o4, o5⟩ := arrayOverA_spec hov
  have hgs := flat_of_before _ hgv
  have hl1 : (Cond.laysStatic Bundle.tN "UNASSIGNED_STACK" Bundle.steD).before #[Value.ref b] s = true := hts _ (by decide +kernel)
  have hl2 : (Cond.laysStatic Bundle.tN "SUPPRESSED_SENTINEL" Bundle.listD).before #[Value.ref b] s = true := hts _ (by decide +kernel)
  have hi : (Cond.initialized Bundle.tN).before #[Value.ref b] s = true := hts _ (by decide +kernel)
  have hr1 : (Cond.isRef (.static Bundle.tN "UNASSIGNED_STACK" Bundle.steD)).before #[Value.ref b] s = true := hgs _ (by decide +kernel)
  have hr2 : (Cond.isRef (.static Bundle.tN "SUPPRESSED_SENTINEL" Bundle.listD)).before #[Value.ref b] s = true := hgs _ (by decide +kernel)
  obtain ⟨cT, kT, iT, fT, aT, ceT, t1, t2, t3, t4, -⟩ := Cond.laysStatic_spec hl1
  have hu : ∀ (c : ClassId) (k : Class) (a : Nat), s.vm.findClass Bundle.tN = some c → s.vm.classes[c]? = some k → k.statics = some a → a = aT := by
    intro c k a g1 g2 g3
    cases Option.some.inj (g1.symm.trans t1)
    cases Option.some.inj (g2.symm.trans (State.fieldFound?_spec t2).1)
    exact Option.some.inj (g3.symm.trans t4)
  refine ⟨(dC, dI), cI, cF, cQ, cJ, cD, aT, ⟨⟨hKc, ?_⟩, fun q hq => ?_, fun q hq => ?_, fun q hq => ?_, ⟨fun q hq => ?_, fun q hq => ?_⟩, ?_, ?_, hov, ?_, ?_, ?_, hl0⟩, ⟨hKc, ?_⟩⟩
  · intro k q hq
    match k, hq with
    | 0, hq => cases hq; exact aF
    | 1, hq => cases hq; exact aI
    | 2, hq => cases hq; exact ⟨fun n z => ⟨fun k h => (by cases h), kQ, o3, comp, o4⟩, o5⟩
    | k + 3, hq => cases hq
  · exact va_tabs rfl rfl (hts _ (st_nm q hq))
  · exact va_tabs rfl rfl (hts _ (st_nf q hq))
  · have h1 := hts _ (st_str q hq)
    obtain ⟨k, cf, i, a, -, -, -, -, -, hev⟩ := Cond.stringRef_spec k3.2.1 h1
    exact ⟨a, vk_R.of h1 hev⟩
  · exact va_tabs rfl rfl (hts _ (st_c q hq))
  · exact va_tabs rfl rfl (hts _ (st_d q hq))
  · exact zq_at (vx_Zqof hl1 hi hr1 (fun a h => Nat.not_le.mpr h)) hu
  · exact zq_at (vx_Zqof hl2 hi hr2 (fun a h => Nat.not_le.mpr h)) hu
  · exact va_Nc.of (hgs (.not (.castable eA eI)) (by decide +kernel))
  · exact va_Nc.of (hgs (.not (.castable eS eI)) (by decide +kernel))
  · exact va_Nc.of (hgs (.not (.castable eS eA)) (by decide +kernel))
  · intro k q hq
    match k, hq with
    | 0, hq => cases hq; exact aJ
    | 1, hq => cases hq; exact aD
    | k + 2, hq => cases hq
