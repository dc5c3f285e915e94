/-! the room of a method d calls deep; what every method's start says of the machine; contexts -/
abbrev rmk (d mc ms : Nat) : Room := { frames := d, cells := mc, slots := ms, locals := 36 * d }
/-- links of private members among nest mates -/
def am_nm : List (String × Nat × MethodName) := [(RX3, 15, yX0_init), (RX3, 22, yX1_init), (RX3, 29, yX2_init), (RX3, 167, yX2_take), (RX3, 131, yX2_stepOf), (RX3, 171, yX1_dropBelow), (RX3, 63, yX0_append), (RX3, 79, yX1_append), (RX3, 82, yX1_sizeOf), (RX3, 159, yX1_putIn), (RX1, 47, yX3_held), (RX3, 163, yX0_flow), (RX0, 26, yX3_held), (RX3, 195, yX2_find), (RX3, 122, yX2_row), (RX3, 180, yX2_dropBehind), (RX3, 109, yX1_dropFrom), (RX3, 114, yX2_highestNotAbove), (RX3, 202, yX1_sizeBelow)]
def am_nf : List (String × Nat × String × String × String) := [(RX3, 48, RX0, "size", "I"), (RX3, 138, RX1, "targets", "[I"), (RX3, 142, RX1, "ways", "[I"), (RX3, 147, RX1, "numbers", "[F"), (RX3, 60, RX1, "size", "I"), (RX3, 100, RX2, "size", "I")]
def am_str : List (Nat × String) := [(183, "no such cell"), (43, "factor is not -4 .. 4"), (54, "there are 64 drifts"), (61, "the world has begun"), (67, "n is not 0 .. 100"), (187, "way is not 0 .. 2"), (191, "v is not -65536 .. 65536"), (193, "more than 512 inputs would be in the record"), (86, "count is not 1 .. 256"), (185, "one of the others is no cell"), (92, "n is not 1 .. 64"), (198, "no snapshot of this step"), (107, "step is below T"), (112, "step is not 0 .. T"), (117, "there is no snapshot to step from"), (128, "no such snapshot"), (200, "no such input of this step"), (145, "what is not 0 .. 1"), (157, "what is not 0 .. 7")]
abbrev eI : String := "java/lang/IndexOutOfBoundsException"
abbrev eA : String := "java/lang/IllegalArgumentException"
abbrev eS : String := "java/lang/IllegalStateException"
def am_c : List String := [eI, eA, eS]
def am_d : List MethodName := [Bundle.initS "java/lang/RuntimeException", Bundle.initS "java/lang/Exception", Bundle.initS Bundle.tN]
abbrev tysK (cI cF cQ : ClassId) : List (ClassId × FieldType) := [(cF, .float), (cI, .int), (cQ, .array .float)]
/-- what holds of the machine at every method's start: classes and array classes, private links, texts, the statics of Throwable (their cell is aT) -/
def am (l : Launch) (D : va_G) (cI cF cQ : ClassId) (aT : Nat) (U : State) : Prop :=
  va_K D vwCl (tysK cI cF cQ) U ∧ (∀ q ∈ am_nm, va_Nw (.methodLinkNest q.1 q.2.1 q.2.2 "StateKeeper") U) ∧ (∀ q ∈ am_nf, va_Nw (.fieldLinkNest q.1 q.2.1 q.2.2.1 q.2.2.2.1 q.2.2.2.2 "StateKeeper") U) ∧ (∀ q ∈ am_str, ∃ sa, vk_R RX3 q.1 q.2 sa U) ∧ ((∀ q ∈ am_c, va_Nw (.castable q q) U) ∧ ∀ q ∈ am_d, va_Nw (.declares q) U) ∧
  vx_Zq Bundle.tN "UNASSIGNED_STACK" Bundle.steD (fun q => q ≠ aT) U U.heap ∧ vx_Zq Bundle.tN "SUPPRESSED_SENTINEL" Bundle.listD (fun q => q ≠ aT) U U.heap ∧ va_AOA .float U ∧ va_Nc eA eI U ∧ va_Nc eS eI U ∧ va_Nc eS eA U ∧ l.stackTraces = false
theorem am.at {l : Launch} {D : va_G} {cI cF cQ : ClassId} {aT : Nat} {s U : State} (h : am l D cI cF cQ aT s) (hW : s.WarmedH U.vm) (hh : U.heap[aT]? = s.heap[aT]?) : am l D cI cF cQ aT U := by
  obtain ⟨h1, h2, h3, h4, h5, h6, h7, h8, h9, h10, h11, h12⟩ := h
  have hk : ∀ a : Nat, a < s.heap.size → ¬ (a ≠ aT) → U.heap[a]? = s.heap[a]? := fun a _ ha => by
    have e : a = aT := Decidable.not_not.mp ha
    rw [e]; exact hh
  refine ⟨va_K.moved hW.alike h1, fun q hq => va_Nw.warmM hW (h2 q hq), fun q hq => va_Nw.warmF hW (h3 q hq), fun q hq => ?_, ⟨fun q hq => va_Nw.warmC hW (h5.1 q hq), fun q hq => va_Nw.warmD hW (h5.2 q hq)⟩, ?_, ?_, va_AOA.moved hW.alike h8, va_Nc.moved hW.alike h9, va_Nc.moved hW.alike h10, va_Nc.moved hW.alike h11, h12⟩
  · obtain ⟨sa, hsa⟩ := h4 q hq
    exact ⟨sa, vk_R.warm hW hsa⟩
  · exact (vx_Zq.moved hW.alike h6).kept hk
  · exact (vx_Zq.moved hW.alike h7).kept hk
theorem am.lt {l : Launch} {D : va_G} {cI cF cQ : ClassId} {aT : Nat} {s : State} (h : am l D cI cF cQ aT s) : aT < s.heap.size := by
  obtain ⟨-, -, -, -, -, h6, -⟩ := h
  obtain ⟨-, c, k, i, f, a, cell, -, -, -, -, hc, -, -, -, -, hA⟩ := h6
  have e : a = aT := Decidable.not_not.mp hA
  rw [← e]
  exact (Array.getElem?_eq_some_iff.mp hc).1
/-- a method's start: the arguments, the heap's size, its world, the machine -/
def pcW (l : Launch) (D : va_G) (cI cF cQ : ClassId) (aT : Nat) (av : List Value) (w : va_W) (sz : Nat) : Array Value → State → Prop :=
  va_Pc av (fun U => U.heap.size = sz ∧ va_P D vwCl w U.heap ∧ va_D (fun q => q ≠ aT) w ∧ am l D cI cF cQ aT U)
theorem pcW_blind {l : Launch} {D : va_G} {cI cF cQ : ClassId} {aT : Nat} {av : List Value} {w : va_W} {sz : Nat} : FrameBlind (pcW l D cI cF cQ aT av w sz) := by
  intro a U g mk q
  obtain ⟨q0, q1, q2, q3, q4⟩ := q
  exact ⟨q0, q1, q2, q3, am.at (U := U.calling g mk a) q4 (State.WarmedH.refl U) rfl⟩
/-- the walk's own context -/
def cx (p : Program) (l : Launch) (m : MethodId) (c : Code) (s : State) (args : Array Value) (A : Nat → Prop) (D : va_G) (cI cF cQ : ClassId) (aT : Nat) (cc : ByteArray) (nL : Nat) (Ts : List Cond) (own : String) : Prop :=
  CallFix p m c cc nL s args Ts own ∧ (∀ q, s.heap.size ≤ q → A q) ∧ ¬ A aT ∧ am l D cI cF cQ aT s
theorem va_P_iff {D : va_G} {cl : List vw_C} {w : va_W} {H : Heap} : va_P D cl w H ↔ ∀ q ∈ w, va_at D cl q H := by
  constructor
  · intro h q hq
    obtain ⟨k, hk⟩ := List.getElem?_of_mem hq
    exact h k q hk
  · intro h k q hk
    exact h q (List.mem_of_getElem? hk)
theorem va_D_iff {A : Nat → Prop} {w : va_W} : va_D A w ↔ (w.map Prod.fst).Nodup ∧ ∀ q ∈ w, A q.1 := by
  constructor
  · intro h
    refine ⟨?_, fun q hq => ?_⟩
    · unfold List.Nodup
      rw [List.pairwise_iff_getElem]
      intro i j hi hj hij e
      rw [List.length_map] at hi hj
      rw [List.getElem_map, List.getElem_map] at e
      have := h.1 i j _ _ (List.getElem?_eq_getElem hi) (List.getElem?_eq_getElem hj) e
      omega
    · obtain ⟨k, hk⟩ := List.getElem?_of_mem hq
      exact h.2 k q hk
  · intro h
    refine ⟨fun i j x y hi hj e => ?_, fun k q hk => h.2 q (List.mem_of_getElem? hk)⟩
    have hn := h.1
    unfold List.Nodup at hn
    rw [List.pairwise_iff_getElem] at hn
    obtain ⟨li, ei⟩ := List.getElem?_eq_some_iff.mp hi
    obtain ⟨lj, ej⟩ := List.getElem?_eq_some_iff.mp hj
    have li2 : i < (w.map Prod.fst).length := by rw [List.length_map]; exact li
    have lj2 : j < (w.map Prod.fst).length := by rw [List.length_map]; exact lj
    rcases Nat.lt_trichotomy i j with q | q | q
    · exact absurd (by rw [List.getElem_map, List.getElem_map, ei, ej, e]) (hn i j li2 lj2 q)
    · exact q
    · exact absurd (by rw [List.getElem_map, List.getElem_map, ei, ej, e]) (hn j i lj2 li2 q)
theorem lz_permP {D : va_G} {cl : List vw_C} {w w' : va_W} {H : Heap} (hp : w.Perm w') (h : va_P D cl w H) : va_P D cl w' H := va_P_iff.mpr fun q hq => va_P_iff.mp h q (hp.mem_iff.mpr hq)
theorem lz_permD {A : Nat → Prop} {w w' : va_W} (hp : w.Perm w') (h : va_D A w) : va_D A w' := va_D_iff.mpr ⟨(hp.map Prod.fst).nodup_iff.mp (va_D_iff.mp h).1, fun q hq => (va_D_iff.mp h).2 q (hp.mem_iff.mpr hq)⟩
theorem lz_leftP {D : va_G} {cl : List vw_C} {w w' : va_W} {H : Heap} (h : va_P D cl (w ++ w') H) : va_P D cl w H := va_P_iff.mpr fun q hq => va_P_iff.mp h q (List.mem_append_left _ hq)
theorem lz_rightP {D : va_G} {cl : List vw_C} {w w' : va_W} {H : Heap} (h : va_P D cl (w ++ w') H) : va_P D cl w' H := va_P_iff.mpr fun q hq => va_P_iff.mp h q (List.mem_append_right _ hq)
theorem lz_leftD {A : Nat → Prop} {w w' : va_W} (h : va_D A (w ++ w')) : va_D A w := by
  have h1 := va_D_iff.mp h
  rw [List.map_append] at h1
  exact va_D_iff.mpr ⟨(List.nodup_append.mp h1.1).1, fun q hq => h1.2 q (List.mem_append_left _ hq)⟩
/-- the callee's part of a world, seen by itself -/
theorem lz_cutP {D : va_G} {cl : List vw_C} {w wc wr : va_W} {H : Heap} (hp : w.Perm (wc ++ wr)) (h : va_P D cl w H) : va_P D cl wc H := lz_leftP (lz_permP hp h)
theorem lz_cutD {A : Nat → Prop} {w wc wr : va_W} (hp : w.Perm (wc ++ wr)) (h : va_D A w) : va_D A wc := lz_leftD (lz_permD hp h)
theorem lz_addD {A : Nat → Prop} {w w' : va_W} (ha : w'.map Prod.fst = w.map Prod.fst) (h : va_D A w) : va_D A w' := by
  have h1 := va_D_iff.mp h
  refine va_D_iff.mpr ⟨by rw [ha]; exact h1.1, fun q hq => ?_⟩
  have h2 : q.1 ∈ w.map Prod.fst := by rw [← ha]; exact List.mem_map_of_mem hq
  obtain ⟨x, hx, e⟩ := List.mem_map.mp h2
  rw [← e]
  exact h1.2 x hx
theorem lz_inA {w : va_W} {sz q : Nat} : va_A w sz q ↔ q ∈ w.map Prod.fst ∨ sz ≤ q := by
  constructor
  · rintro (⟨k, e, h⟩ | h)
    · exact Or.inl (List.mem_map.mpr ⟨(q, e), List.mem_of_getElem? h, rfl⟩)
    · exact Or.inr h
  · rintro (h | h)
    · obtain ⟨x, hx, e⟩ := List.mem_map.mp h
      obtain ⟨k, hk⟩ := List.getElem?_of_mem hx
      exact Or.inl ⟨k, x.2, by rw [hk, ← e]⟩
    · exact Or.inr h
/-- behind a call that wrote its part w1 (the same addresses as wc) and nothing else that was there -/
theorem lz_join {A : Nat → Prop} {D : va_G} {w wc wr w1 : va_W} {H H1 : Heap} (hP : va_P D vwCl w H) (hD : va_D A w) (hp : w.Perm (wc ++ wr)) (hk : ∀ q : Nat, q < H.size → ¬ va_A wc H.size q → H1[q]? = H[q]?) (hP1 : va_P D vwCl w1 H1) (ha : w1.map Prod.fst = wc.map Prod.fst) : va_P D vwCl (w1 ++ wr) H1 ∧ va_D A (w1 ++ wr) := by
  have hP2 := lz_permP hp hP
  have hD2 := lz_permD hp hD
  have hd := va_D_iff.mp hD2
  rw [List.map_append] at hd
  have hdis := (List.nodup_append.mp hd.1).2.2
  constructor
  · refine va_P_iff.mpr fun q hq => ?_
    rcases List.mem_append.mp hq with h | h
    · exact va_P_iff.mp hP1 q h
    · have hat := va_P_iff.mp (lz_rightP hP2) q h
      refine hat.kept (hk q.1 hat.lt fun hA => ?_)
      rcases lz_inA.mp hA with h1 | h1
      · exact hdis q.1 h1 q.1 (List.mem_map_of_mem h) rfl
      · exact absurd hat.lt (by omega)
  · exact lz_addD (w := wc ++ wr) (by rw [List.map_append, List.map_append, ha]) hD2
theorem lz_freeA {A : Nat → Prop} {w wc wr : va_W} {H0 H : Heap} {locs : List Loc} (hD : va_D A w) (hp : w.Perm (wc ++ wr)) (hS : va_S A H0 H locs) (hA : ∀ q, H0.size ≤ q → A q) : ∀ q, va_A wc H.size q → A q := by
  intro q h
  rcases lz_inA.mp h with h1 | h1
  · obtain ⟨x, hx, e⟩ := List.mem_map.mp h1
    rw [← e]
    exact (va_D_iff.mp (lz_permD hp hD)).2 x (List.mem_append_left _ hx)
  · exact hA q (Nat.le_trans hS.1 h1)
