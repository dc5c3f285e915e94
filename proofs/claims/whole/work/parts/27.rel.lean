/-! the class's state and the reference's: the same but for the record's order -/
/-- two records: the same inputs, those of a step in the same order -/
def LR (L M : List rI) : Prop := (∀ z : Int, fl L z = fl M z) ∧ L.Perm M
theorem LR.len {L M : List rI} (h : LR L M) : L.length = M.length := h.2.length_eq
theorem LR.cqe {L M : List rI} (h : LR L M) (z : Int) : cq L z = cq M z := by rw [← fl_len, ← fl_len, h.1 z]
theorem LR.cbe {L M : List rI} (h : LR L M) (z : Int) : cb L z = cb M z := h.2.countP_eq _
theorem LR.rg {L M : List rI} (h : LR L M) (z : Int) (k : Nat) : rget L z k = rget M z k := by
  unfold rget
  rw [h.1 z]
theorem LR.filter {L M : List rI} (h : LR L M) (p : rI → Bool) : LR (L.filter p) (M.filter p) := by
  refine ⟨fun z => ?_, h.2.filter p⟩
  have e : ∀ K : List rI, fl (K.filter p) z = (fl K z).filter p := fun K => by
    show List.filter _ (List.filter p K) = List.filter p (List.filter _ K)
    rw [List.filter_filter, List.filter_filter]
    congr 1
    funext x
    exact Bool.and_comm _ _
  rw [e, e, h.1 z]
theorem LR.put {L M : List rI} (h : LR L M) (hs : srt L) (e : rI) : LR (rins L e) (app M e) := by
  refine ⟨fun z => ?_, ?_⟩
  · show (rins L e).filter (fun x => decide ((x.1 : Int) = z)) = fl (M ++ [e]) z
    rw [rins_filter hs, fl_app, fl_1]
    show fl L z ++ _ = _
    rw [h.1 z]
  · exact (rins_perm L e).trans ((h.2.cons e).trans (List.perm_append_comm (l₁ := [e]) (l₂ := M)))
theorem insN_srt {f : Nat → rI} {L : List rI} (hs : srt L) : ∀ k, srt (insN rins f k L)
  | 0 => hs
  | k + 1 => rins_srt (insN_srt hs k) _
theorem LR.ins {L M : List rI} (h : LR L M) (hs : srt L) (f : Nat → rI) : ∀ k, LR (insN rins f k L) (insN app f k M)
  | 0 => h
  | k + 1 => (LR.ins h hs f k).put (insN_srt hs k) _
theorem insN_len {f : Nat → rI} {L : List rI} : ∀ k, (insN rins f k L).length = k + L.length
  | 0 => (Nat.zero_add _).symm
  | k + 1 => by
    show (rins (insN rins f k L) (f k)).length = _
    rw [rins_len, insN_len k]
    omega
theorem insN_in {n : Nat} {f : Nat → rI} {L : List rI} (h : rIn n L) : ∀ k, k + L.length ≤ 512 → (∀ i, i < k → (f i).1 < 2 ^ 30 ∧ (f i).2.1 < n ∧ (f i).2.2.1 ≤ 2 ∧ fF (f i).2.2.2) → rIn n (insN rins f k L)
  | 0, _, _ => h
  | k + 1, h1, h2 => rIn_rins (insN_in h k (by omega) (fun i hi => h2 i (by omega))) (by rw [insN_len]; omega) (h2 k (by omega))
def Rel (x y : St) : Prop := sc x = sc y ∧ sT x = sT y ∧ sd x = sd y ∧ sS x = sS y ∧ LR (sL x) (sL y)
theorem Rel.ok {n ev : Nat} {R : List dI} {x y : St} (h : Rel x y) (hx : Ok n ev R x) : Ok n ev R y := by
  obtain ⟨c, T, d, L, S⟩ := x
  obtain ⟨c', T', d', M, S'⟩ := y
  obtain ⟨h1, h2, h3, h4, h5⟩ := h
  cases h1; cases h2; cases h3; cases h4
  obtain ⟨a1, a2, a3, a4, a5, a6, a7, a8, a9⟩ := hx
  exact ⟨a1, a2, a3, a4, a5, ⟨by rw [← h5.len]; exact a6.1, fun e he => a6.2 e (h5.2.mem_iff.mpr he)⟩, a7, a8, a9⟩
theorem Rel.stL {x y : St} {L M : List rI} (h : Rel x y) (hL : LR L M) : Rel (stL x L) (stL y M) := ⟨h.1, h.2.1, h.2.2.1, h.2.2.2.1, hL⟩
theorem Rel.kp {x y : St} (h : Rel x y) : Rel (kp x) (kp y) := by
  obtain ⟨c, T, d, L, S⟩ := x
  obtain ⟨c', T', d', M, S'⟩ := y
  obtain ⟨h1, h2, h3, h4, h5⟩ := h
  cases h1; cases h2; cases h3; cases h4
  refine ⟨rfl, rfl, rfl, rfl, ?_⟩
  show LR (kpL S T c L) (kpL S T c M)
  unfold kpL
  split
  · exact h5.filter _
  · exact h5
theorem Rel.stp {x y : St} (h : Rel x y) (R : List dI) (ev : Nat) : Rel (stp R ev x) (stp R ev y) := by
  obtain ⟨c, T, d, L, S⟩ := x
  obtain ⟨c', T', d', M, S'⟩ := y
  obtain ⟨h1, h2, h3, h4, h5⟩ := h
  cases h1; cases h2; cases h3; cases h4
  have e : stc R (c, T, d, L, S) = stc R (c, T, d, M, S) := by
    show R.foldl drf ((fl L (T : Int)).foldl actC c) = R.foldl drf ((fl M (T : Int)).foldl actC c)
    rw [h5.1 (T : Int)]
  have hb : Rel (stc R (c, T, d, L, S), T + 1, d + 1, L, S) (stc R (c, T, d, M, S), T + 1, d + 1, M, S) := ⟨e, rfl, rfl, rfl, h5⟩
  show Rel (if 0 < ev ∧ (T + 1) % ev = 0 then _ else _) (if 0 < ev ∧ (T + 1) % ev = 0 then _ else _)
  split
  · exact hb.kp
  · exact hb
theorem Rel.stps {R : List dI} {ev : Nat} : ∀ (k : Nat) {x y : St}, Rel x y → Rel (stps R ev k x) (stps R ev k y)
  | 0, _, _, h => h
  | k + 1, _, _, h => Rel.stps k (h.stp R ev)
theorem Rel.gb {x y : St} (h : Rel x y) (n j : Nat) (e : sE) : Rel (gb n x j e) (gb n y j e) := by
  obtain ⟨c, T, d, L, S⟩ := x
  obtain ⟨c', T', d', M, S'⟩ := y
  obtain ⟨h1, h2, h3, h4, h5⟩ := h
  cases h1; cases h2; cases h3; cases h4
  exact ⟨rfl, rfl, rfl, rfl, h5⟩
theorem Rel.gz {x y : St} (h : Rel x y) (n : Nat) (z : Int) : Rel (gbz n x z) (gbz n y z) := by
  have e := h.2.2.2.1
  unfold gbz
  rw [← e]
  split
  · split
    · exact h.gb _ _ _
    · exact h
  · exact h
theorem Rel.lx {x y : St} (h : Rel x y) (n : Nat) (R : List dI) (ev : Nat) (z : Int) : Rel (ltx n R ev x z) (ltx n R ev y z) := by
  have e := h.2.2.2.1
  have e2 := h.2.1
  unfold ltx
  rw [← e, ← e2]
  split
  · exact h
  · split
    · exact Rel.stps _ (h.gb _ _ _)
    · exact h
theorem Rel.ct {x y : St} (h : Rel x y) (n : Nat) (R : List dI) (k : Nat) : ctv n R x k = ctv n R y k := by
  obtain ⟨c, T, d, L, S⟩ := x
  obtain ⟨c', T', d', M, S'⟩ := y
  obtain ⟨h1, h2, h3, h4, h5⟩ := h
  cases h1; cases h2; cases h3; cases h4
  have e1 : L.length = M.length := h5.len
  have e2 : cq L (T : Int) = cq M (T : Int) := h5.cqe _
  unfold ctv
  show (match k with | 0 => nI T | 1 => nI n | 2 => nI S.length | 3 => nI L.length | 4 => nI (cq L (T : Int)) | 5 => nI R.length | 6 => d | _ => nI (nzc c n)) = (match k with | 0 => nI T | 1 => nI n | 2 => nI S.length | 3 => nI M.length | 4 => nI (cq M (T : Int)) | 5 => nI R.length | 6 => d | _ => nI (nzc c n))
  rw [e1, e2]
theorem gbz_ok {n ev : Nat} {R : List dI} {x : St} (h : Ok n ev R x) (hs : srt (sL x)) (z : Int) : Ok n ev R (gbz n x z) ∧ srt (sL (gbz n x z)) ∧ sT (gbz n x z) ≤ sT x := by
  unfold gbz
  split
  · split
    · next e he => exact ⟨gb_ok h he, hs, (h.2.2.2.2.2.2.2.1 e (List.mem_of_getElem? he)).2⟩
    · exact ⟨h, hs, Nat.le_refl _⟩
  · exact ⟨h, hs, Nat.le_refl _⟩
theorem ltx_ok {n ev : Nat} {R : List dI} {x : St} (h : Ok n ev R x) (hs : srt (sL x)) (z : Int) : Ok n ev R (ltx n R ev x z) ∧ srt (sL (ltx n R ev x z)) ∧ sT (ltx n R ev x z) ≤ sT x := by
  unfold ltx
  split
  · exact ⟨h, hs, Nat.le_refl _⟩
  · split
    · next e he =>
      have h1 := (h.2.2.2.2.2.2.2.1 e (List.mem_of_getElem? he)).2
      have h2 : sT x < 2 ^ 29 := h.2.2.2.2.1
      refine ⟨stps_ok _ (gb_ok h he) (by show e.1 + (sT x - e.1) < 2 ^ 29; omega), stps_srt _ hs, ?_⟩
      rw [stps_T]
      show e.1 + (sT x - e.1) ≤ sT x
      omega
    · exact ⟨h, hs, Nat.le_refl _⟩
theorem drift_ok {n ev : Nat} {R : List dI} {x : St} {a b : Int32} {f : UInt32} (h : Ok n ev R x) (ha : kn n a) (hb : kn n b) (hf : inF c4N c4P f) (hl : R.length < 64) : Ok n ev (R ++ [(tn a, tn b, f)]) x := by
  obtain ⟨h1, h2, h3, h4⟩ := h
  refine ⟨h1, h2, ⟨by rw [List.length_append]; show R.length + 1 ≤ 64; omega, fun d hd => ?_⟩, h4⟩
  rcases List.mem_append.mp hd with hd | hd
  · exact h3.2 d hd
  · rw [List.mem_singleton.mp hd]
    refine ⟨?_, ?_, inF_F c4N_F c4P_F hf⟩
    · show a.toInt.toNat < n
      omega
    · show b.toInt.toNat < n
      omega
theorem every_ok {n ev : Nat} {R : List dI} {x : St} {z : Int32} (h : Ok n ev R x) (hz : 0 ≤ z.toInt ∧ z.toInt ≤ 100) : Ok n (tn z) R x := by
  obtain ⟨h1, h2, h3⟩ := h
  exact ⟨h1, by show z.toInt.toNat ≤ 100; omega, h3⟩
theorem sgt_fin {n ev : Nat} {R : List dI} {x : St} (h : Ok n ev R x) (z : Int) (i : Nat) : fF (sgt (sS x) z i) := by
  unfold sgt
  cases hp : plc (sS x) z with
  | none => exact cfin_z i
  | some j =>
    show fF ((match (sS x)[j]? with | some e => e.2 | none => fun _ => 0) i)
    cases he : (sS x)[j]? with
    | none => exact cfin_z i
    | some e => exact (h.2.2.2.2.2.2.2.1 e (List.mem_of_getElem? he)).1 i
theorem rget_fin {n : Nat} {L : List rI} (h : rIn n L) (z : Int) (k : Nat) : fF (rget L z k).2.2.2 := by
  unfold rget
  cases hq : (fl L z)[k]? with
  | none => exact cfin_z 0
  | some e => exact (h.2 e (List.mem_filter.mp (List.mem_of_getElem? hq)).1).2.2.2
