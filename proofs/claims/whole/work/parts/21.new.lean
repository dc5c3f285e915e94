/-! making arrays and objects; calls of constructors -/
section NEW
variable {p : Program} {l : Launch} {e : Env} {R : Room} {s : State} {m : MethodId} {args : Array Value} {below : List Frame} {meth : Method} {c : Code} {H : Heap} {locs : List Loc} {cells slots : Nat} {Q : State → Prop}
variable {cc : ByteArray} {pc : Nat} {ls : Array Slot} {rest st0 : List Value} {D : va_G} {cl : List vw_C} {A : Nat → Prop} {tys : List (ClassId × FieldType)} {ws : va_W} {H0 : Heap} {cA : ClassId} {N mc ms : Nat}
theorem lz_lastK {t : FieldType} {cB : ClassId} {s : State} (h : va_K D cl (tys ++ [(cB, t)]) s) : va_RA s cB t := (h.2 tys.length (cB, t) (by rw [List.getElem?_append_right (Nat.le_refl _), Nat.sub_self]; rfl)).2
theorem lz_newi (hexec : p.tables.exec = Jvm.exec) (hb : c.code = cc) (harr : (Cond.arrayClass .int).before args s = true) (hK : va_K D cl tys s) (hP : va_P D cl ws H) (hD : va_D A ws) (hS : va_S A H0 H locs) (hA : ∀ q, H0.size ≤ q → A q) (t0 : Nat) (ht : tys[t0]? = some (cA, .int)) (hN : N ≤ 2 ^ 20) (hcells : cells + 1 ≤ R.cells) (hslots : slots + N ≤ R.slots) (hdg : decode cc pc = .ok (.newarray .int, 2))
    (kk : ∀ (q : Nat) (H1 : Heap), va_P D cl (ws ++ [(q, .inl (cA, N, .inl (fun _ => 0)))]) H1 → va_D A (ws ++ [(q, .inl (cA, N, .inl (fun _ => 0)))]) → va_S A H0 H1 locs → W p l e R s m args below meth c H1 locs (cells + 1) (slots + N) Q (F0 m (pc + 2) ls (.ref q :: rest))) : W p l e R s m args below meth c H locs cells slots Q (F0 m pc ls (.int (nI N) :: rest)) := by
  refine va_newa (atype := .int) (ty := .int) (a0 := (N, .inl (fun _ => 0))) hexec hb harr rfl hK hP hD hS hA (fun _ => rfl) (nI_pos (by omega)) (nI_clamp (by omega)) (by show N * 4 ≤ _; omega) hcells hslots hdg (fun q cB H1 hK1 hP1 hD1 hS1 => ?_)
  have e1 := va_nm_int (lz_lastK hK1)
  have e2 := va_nm_int (hK.2 t0 _ ht).2
  have e3 : cB = cA := Option.some.inj (e1.symm.trans e2)
  subst e3
  exact kk q H1 hP1 hD1 hS1
theorem lz_newf (hexec : p.tables.exec = Jvm.exec) (hb : c.code = cc) (harr : (Cond.arrayClass .float).before args s = true) (hK : va_K D cl tys s) (hP : va_P D cl ws H) (hD : va_D A ws) (hS : va_S A H0 H locs) (hA : ∀ q, H0.size ≤ q → A q) (t0 : Nat) (ht : tys[t0]? = some (cA, .float)) (hN : N ≤ 2 ^ 20) (hcells : cells + 1 ≤ R.cells) (hslots : slots + N ≤ R.slots) (hdg : decode cc pc = .ok (.newarray .float, 2))
    (kk : ∀ (q : Nat) (H1 : Heap), va_P D cl (ws ++ [(q, .inl (cA, N, .inr (.inr (.inl (fun _ => 0)))))]) H1 → va_D A (ws ++ [(q, .inl (cA, N, .inr (.inr (.inl (fun _ => 0)))))]) → va_S A H0 H1 locs → W p l e R s m args below meth c H1 locs (cells + 1) (slots + N) Q (F0 m (pc + 2) ls (.ref q :: rest))) : W p l e R s m args below meth c H locs cells slots Q (F0 m pc ls (.int (nI N) :: rest)) := by
  refine va_newa (atype := .float) (ty := .float) (a0 := (N, .inr (.inr (.inl (fun _ => 0))))) hexec hb harr rfl hK hP hD hS hA (fun _ => rfl) (nI_pos (by omega)) (nI_clamp (by omega)) (by show N * 4 ≤ _; omega) hcells hslots hdg (fun q cB H1 hK1 hP1 hD1 hS1 => ?_)
  have e1 := va_nm_float (lz_lastK hK1)
  have e2 := va_nm_float (hK.2 t0 _ ht).2
  have e3 : cB = cA := Option.some.inj (e1.symm.trans e2)
  subst e3
  exact kk q H1 hP1 hD1 hS1
/-- new float[16][n] -/
theorem lz_newq (hexec : p.tables.exec = Jvm.exec) (hb : c.code = cc) {own : String} {index : Nat} {cF cQ : ClassId} (hown : s.vm.findClass own = some m.cls) (hclink : (Cond.classLink own index "[[F").before args s = true) (hover : va_AOA .float s) (harr : (Cond.arrayClass .float).before args s = true) (hK : va_K D cl tys s) (hP : va_P D cl ws H) (hD : va_D A ws) (hS : va_S A H0 H locs) (hA : ∀ q, H0.size ≤ q → A q) (t0 t1 : Nat) (ht0 : tys[t0]? = some (cF, .float)) (ht1 : tys[t1]? = some (cQ, .array .float)) (hN : N ≤ 2 ^ 20) (hcells : cells + (1 + 16) ≤ R.cells) (hslots : slots + (16 + 16 * N) ≤ R.slots) (hdg : decode cc pc = .ok (.multianewarray index 2, 4))
    (kk : ∀ (q : Nat) (r : Nat → Nat) (H1 : Heap), va_P D cl ((ws ++ [(q, .inl (cQ, 16, .inr (.inr (.inr (.inr (fun i => if i < 16 then some (r i) else none))))))]) ++ (List.range 16).map (fun i => (r i, .inl (cF, N, .inr (.inr (.inl (fun _ => 0))))))) H1 → va_D A ((ws ++ [(q, .inl (cQ, 16, .inr (.inr (.inr (.inr (fun i => if i < 16 then some (r i) else none))))))]) ++ (List.range 16).map (fun i => (r i, .inl (cF, N, .inr (.inr (.inl (fun _ => 0))))))) → va_S A H0 H1 locs → W p l e R s m args below meth c H1 locs (cells + 1 + 16) (slots + 16 + 16 * N) Q (F0 m (pc + 4) ls (.ref q :: rest))) : W p l e R s m args below meth c H locs cells slots Q (F0 m pc ls (.int (nI N) :: .int (nI 16) :: rest)) := by
  have hX : ws = ws ++ va_pl [] (fun _ => .inr (0, [])) := (List.append_nil ws).symm
  rw [hX] at hP hD
  refine va_mna (X := ws) (L := []) (ty := .float) (z := (N, .inr (.inr (.inl (fun _ => 0))))) hexec hb hown hclink hover harr (va_nm_float (hK.2 t0 _ ht0).2) hK hP hD hS hA (N' := 16) (K' := N) (nI_pos (by omega)) (nI_pos (by omega)) (nI_clamp (by omega)) (nI_clamp (by omega)) (by decide) (by show N * 4 ≤ _; omega) (by omega) rfl rfl hcells hslots (fun c => by show _ = arrV c N (fun _ => Value.float 0); rw [← arrV_new]; rfl) hdg (fun q r cB H1 hi hl hK1 hP1 hD1 hS1 => ?_)
  have e1 : s.vm.findClass ("[" ++ (FieldType.array .float).toString) = some cB := lz_lastK hK1
  have e2 : s.vm.findClass ("[" ++ (FieldType.array .float).toString) = some cQ := (hK.2 t1 _ ht1).2
  have e3 : cB = cQ := Option.some.inj (e1.symm.trans e2)
  subst e3
  have e4 : va_pl ([] ++ (List.range 16).map r) (vr_up (fun _ => .inr (0, [])) ((List.range 16).map r) (.inl (cF, N, .inr (.inr (.inl (fun _ => 0)))))) = (List.range 16).map (fun i => (r i, .inl (cF, N, .inr (.inr (.inl (fun _ => 0)))))) := by
    unfold va_pl
    rw [List.nil_append, List.map_map]
    refine List.map_congr_left fun i hi9 => ?_
    show (r i, vr_up _ _ _ (r i)) = _
    unfold vr_up
    rw [if_pos (List.mem_map_of_mem hi9)]
  rw [e4] at hP1 hD1
  exact kk q r H1 hP1 hD1 hS1
/-- behind a constructor's call: its part, new cells among it, and the rest -/
theorem lz_joinN {w wc wr w1 : va_W} {H1 : Heap} (hP : va_P D vwCl w H) (hD : va_D A w) (hp : w.Perm (wc ++ wr)) (hAn : ∀ q, H.size ≤ q → A q) (hk : ∀ q : Nat, q < H.size → ¬ va_A wc H.size q → H1[q]? = H[q]?) (hP1 : va_P D vwCl w1 H1) (hD1 : va_D (va_A wc H.size) w1) : va_P D vwCl (w1 ++ wr) H1 ∧ va_D A (w1 ++ wr) := by
  have hP2 := lz_permP hp hP
  have hD2 := lz_permD hp hD
  have hd := va_D_iff.mp hD2
  rw [List.map_append] at hd
  have hn := List.nodup_append.mp hd.1
  have hd1 := va_D_iff.mp hD1
  constructor
  · refine va_P_iff.mpr fun q hq => ?_
    rcases List.mem_append.mp hq with h | h
    · exact va_P_iff.mp hP1 q h
    · have hat := va_P_iff.mp (lz_rightP hP2) q h
      refine hat.kept (hk q.1 hat.lt fun hA => ?_)
      rcases lz_inA.mp hA with h1 | h1
      · exact hn.2.2 q.1 h1 q.1 (List.mem_map_of_mem h) rfl
      · exact absurd hat.lt (by omega)
  · refine va_D_iff.mpr ⟨?_, fun q hq => ?_⟩
    · rw [List.map_append]
      refine List.nodup_append.mpr ⟨hd1.1, hn.2.1, fun a ha b hb e => ?_⟩
      subst e
      obtain ⟨x, hx, e1⟩ := List.mem_map.mp ha
      obtain ⟨y, hy, e2⟩ := List.mem_map.mp hb
      have hat := va_P_iff.mp (lz_rightP hP2) y hy
      rcases lz_inA.mp (hd1.2 x hx) with h1 | h1
      · exact hn.2.2 x.1 h1 y.1 (List.mem_map_of_mem hy) (e1.trans e2.symm)
      · have := hat.lt; omega
    · rcases List.mem_append.mp hq with h | h
      · rcases lz_inA.mp (hd1.2 q h) with h1 | h1
        · obtain ⟨x, hx, e1⟩ := List.mem_map.mp h1
          rw [← e1]
          exact hd.2 x (List.mem_append_left _ hx)
        · exact hAn q.1 h1
      · exact hd.2 q (List.mem_append_right _ h)
theorem lz_cNv {w wc wr : va_W} {post : va_W → Prop} {a : Array Value} (hr : va_Run p l e R s m args below meth c H locs cells slots mc ms (F0 m pc ls st0) rest (va_Qv (fun w1 => va_D (va_A wc H.size) w1 ∧ post w1) (fun w1 t => va_P D vwCl w1 t.heap) (va_A wc H.size) a) (va_A wc H.size)) (hP : va_P D vwCl w H) (hD : va_D A w) (hS : va_S A s.heap H locs) (hA : ∀ q, s.heap.size ≤ q → A q) (hp : w.Perm (wc ++ wr))
    (kk : ∀ (w1 : va_W) (H1 : Heap) (locs1 : List Loc), post w1 → va_P D vwCl (w1 ++ wr) H1 → va_D A (w1 ++ wr) → va_S A s.heap H1 locs1 → W p l e R s m args below meth c H1 locs1 (cells + mc) (slots + ms) Q (F0 m (pc + 3) ls rest)) : W p l e R s m args below meth c H locs cells slots Q (F0 m pc ls st0) := by
  have hF := lz_freeA hD hp hS hA
  refine va_callv hr hS (fun q _ h => hF q h) hF (fun w1 t H1 locs1 ht hvm hpo hB hz hk hS1 => ?_)
  obtain ⟨h1, h2⟩ := lz_joinN hP hD hp (fun q h => hA q (Nat.le_trans hS.1 h)) hk (by rw [← ht]; exact hB) hpo.1
  exact kk w1 H1 locs1 hpo.2 h1 h2 hS1
end NEW
theorem rowsL_of {cF : ClassId} {o r : Nat → Nat} {n : Nat} {M : Nat → Nat → UInt32} (h : ∀ i, i < 16 → o (14 + i) = r i) : rowsL cF o n M = (List.range 16).map (fun i => (r i, .inl (cF, n, .inr (.inr (.inl (M i)))))) := by
  unfold rowsL
  refine List.map_congr_left fun i hi => ?_
  rw [h i (List.mem_range.mp hi)]
theorem rowsI_of {o r : Nat → Nat} (h : ∀ i, i < 16 → o (14 + i) = r i) : (fun i => if i < 16 then some (o (14 + i)) else none) = (fun i => if i < 16 then some (r i) else none) := by
  funext i
  by_cases q : i < 16
  · rw [if_pos q, if_pos q, h i q]
  · rw [if_neg q, if_neg q]
