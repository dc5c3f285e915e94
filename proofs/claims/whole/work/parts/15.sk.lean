/-! StateKeeper: its state, its world, throwing -/
/-- cells, T, steps done, record, snapshots -/
abbrev St : Type := (Nat → UInt32) × Nat × Int32 × List rI × List sE
abbrev sc (x : St) : Nat → UInt32 := x.1
abbrev sT (x : St) : Nat := x.2.1
abbrev sd (x : St) : Int32 := x.2.2.1
abbrev sL (x : St) : List rI := x.2.2.2.1
abbrev sS (x : St) : List sE := x.2.2.2.2
abbrev skW (cF : ClassId) (o : Nat → Nat) (n ev : Nat) (x : St) (wD wR wS : va_W) : va_W := ((o 0), .inr (3, [.ref (o 1), .ref (o 2), .ref (o 6), .ref (o 11), .int (nI (sT x)), .int (nI ev), .int (sd x)])) :: ((o 1), .inl (cF, n, .inr (.inr (.inl (sc x))))) :: (wD ++ (wR ++ wS))
def WC (cI cF cQ : ClassId) (o : Nat → Nat) (n ev : Nat) (R : List dI) (x : St) (w : va_W) : Prop := ∃ wD wR wS, WD cI cF o R wD ∧ WR cI cF o (sL x) wR ∧ WS cI cF cQ o n (sS x) wS ∧ w = skW cF o n ev x wD wR wS
theorem WC.ad {cI cF cQ : ClassId} {o : Nat → Nat} {n ev : Nat} {R : List dI} {x : St} {w : va_W} (h : WC cI cF cQ o n ev R x w) : w.map Prod.fst = o 0 :: o 1 :: ([o 2, o 3, o 4, o 5] ++ ([o 6, o 7, o 8, o 9, o 10] ++ (o 11 :: o 12 :: o 13 :: (List.range 16).map (fun i => o (14 + i))))) := by
  obtain ⟨wD, wR, wS, h1, h2, h3, rfl⟩ := h
  rw [List.map_cons, List.map_cons, List.map_append, List.map_append, h1.ad, h2.ad, h3.ad]
section PERM
variable {α : Type}
theorem sk_pR (x0 x1 : α) (d r s : List α) : (x0 :: x1 :: (d ++ (r ++ s))).Perm (r ++ (x0 :: x1 :: (d ++ s))) := by
  have h1 : (d ++ (r ++ s)).Perm (r ++ (d ++ s)) := by
    rw [← List.append_assoc, ← List.append_assoc]
    exact List.Perm.append_right s List.perm_append_comm
  have h2 : (x0 :: x1 :: (r ++ (d ++ s))).Perm (r ++ (x0 :: x1 :: (d ++ s))) := (List.perm_append_comm (l₁ := [x0, x1]) (l₂ := r)).append_right (d ++ s) |>.trans (List.Perm.of_eq (by simp)) |> fun h => by simpa using h
  exact ((h1.cons x1).cons x0).trans h2
theorem sk_pD (x0 x1 : α) (d r s : List α) : (x0 :: x1 :: (d ++ (r ++ s))).Perm (d ++ (x0 :: x1 :: (r ++ s))) := by
  have h := (List.perm_append_comm (l₁ := [x0, x1]) (l₂ := d)).append_right (r ++ s)
  simpa using h
theorem sk_pS (x0 x1 : α) (d r s : List α) : (x0 :: x1 :: (d ++ (r ++ s))).Perm (s ++ (x0 :: x1 :: (d ++ r))) := by
  have h := List.perm_append_comm (l₁ := x0 :: x1 :: (d ++ r)) (l₂ := s)
  simpa using h
theorem sk_pCR (x0 x1 : α) (d r s : List α) : (x0 :: x1 :: (d ++ (r ++ s))).Perm ((x1 :: r) ++ (x0 :: (d ++ s))) := by
  refine (sk_pR x0 x1 d r s).trans ?_
  have h : (r ++ x0 :: x1 :: (d ++ s)).Perm (x1 :: (r ++ x0 :: (d ++ s))) := by
    have := List.perm_middle (a := x1) (l₁ := r ++ [x0]) (l₂ := d ++ s)
    simpa using this
  exact h
theorem sk_pCD (x0 x1 : α) (d r s : List α) : (x0 :: x1 :: (d ++ (r ++ s))).Perm ((x1 :: d) ++ (x0 :: (r ++ s))) := by
  refine (sk_pD x0 x1 d r s).trans ?_
  have := List.perm_middle (a := x1) (l₁ := d ++ [x0]) (l₂ := r ++ s)
  simpa using this
theorem sk_pCS (x0 x1 : α) (d r s : List α) : (x0 :: x1 :: (d ++ (r ++ s))).Perm ((x1 :: s) ++ (x0 :: (d ++ r))) := by
  refine (sk_pS x0 x1 d r s).trans ?_
  have := List.perm_middle (a := x1) (l₁ := s ++ [x0]) (l₂ := d ++ r)
  simpa using this
end PERM
/-- where a method threw: the exception's class, the world as it was -/
def xW (D : va_G) (w : va_W) (XE : String → Prop) (A : Nat → Prop) : String → State → State → Prop := vx_X (fun w1 : va_W => w1 = w) (fun E w1 t => XE E ∧ va_P D vwCl w1 t.heap) A
section THROW
variable {p : Program} {l : Launch} {e : Env} {R : Room} {s : State} {m : MethodId} {args : Array Value} {below : List Frame} {meth : Method} {c : Code} {H : Heap} {locs : List Loc} {cells slots : Nat} {Q : State → Prop}
variable {D : va_G} {cI cF cQ : ClassId} {aT : Nat} {A : Nat → Prop} {cc : ByteArray} {nL mc ms pc k n : Nat} {Ts : List Cond} {ls : Array Slot} {lv : List (Nat × Value)} {st0 rest : List Value} {w : va_W} {XE XE' : String → Prop} {Qc : Array Value → State → Outcome → State → Prop}
theorem lx_out {E : String} {ce : Cell} {q : Addr} (htab : ∀ x ∈ c.exceptionTable.toList, False) (hlk : meth.locks = false) (hcell : H[q]? = some ce) (hv : ce.vm = .none) (hcl : s.vm.findClass E = some ce.cls) (hE : XE' E) (hP : va_P D vwCl w H) (hS : va_S A s.heap H locs) (hc : cells ≤ mc) (hs : slots ≤ ms) :
    vx_W p l e R s m args below meth c H locs cells slots (vx_MQ below Qc (xW D w XE' A) args s mc ms A) (F0 m pc ls rest) q :=
  vx_out (fun x hx => (htab x hx).elim) hlk hcell hv hcl (fun t ht _ => ⟨w, rfl, ⟨hE, by rw [ht]; exact hP⟩, hS.F ht⟩) hS.2.2 hc hs
/-- a call that may throw and changes nothing: no answer -/
theorem lx_cv {post : Prop} {a : Array Value} (hr : vx_Run p l e R s m args below meth c H locs cells slots mc ms (F0 m pc ls st0) rest (va_Qv (fun w1 : va_W => w1 = w ∧ post) (fun w1 t => va_P D vwCl w1 t.heap) (va_A w H.size) a) (xW D w XE (va_A w H.size)) (va_A w H.size)) (hD : va_D A w) (hS : va_S A s.heap H locs) (hA : ∀ q, s.heap.size ≤ q → A q)
    (kx : ∀ (E : String) (ce : Cell) (q9 : Addr) (H1 : Heap) (locs1 : List Loc), XE E → va_P D vwCl w H1 → va_S A s.heap H1 locs1 → H1[q9]? = some ce → ce.vm = .none → s.vm.findClass E = some ce.cls → vx_W p l e R s m args below meth c H1 locs1 (cells + mc) (slots + ms) Q (F0 m pc ls rest) q9)
    (kk : ∀ (H1 : Heap) (locs1 : List Loc), post → va_P D vwCl w H1 → va_S A s.heap H1 locs1 → W p l e R s m args below meth c H1 locs1 (cells + mc) (slots + ms) Q (F0 m (pc + 3) ls rest)) : W p l e R s m args below meth c H locs cells slots Q (F0 m pc ls st0) := by
  have hF := lz_freeA hD (List.Perm.of_eq (List.append_nil w).symm) hS hA
  refine vx_callv hr hS (fun q _ h => hF q h) hF (fun q _ h => hF q h) (fun E ce q9 u t H1 locs1 ht _ hu hB _ _ hS h1 h2 h3 => ?_) (fun u t H1 locs1 ht _ hpo hB _ _ hS => ?_)
  · subst hu
    exact kx E ce q9 H1 locs1 hB.1 (by rw [← ht]; exact hB.2) hS h1 h2 h3
  · obtain ⟨rfl, hpo⟩ := hpo
    exact kk H1 locs1 hpo (by rw [← ht]; exact hB) hS
/-- .. an int -/
theorem lx_ci {post : Int32 → Prop} {a : Array Value} (hr : vx_Run p l e R s m args below meth c H locs cells slots mc ms (F0 m pc ls st0) rest (va_Qi (fun (r : Int32) (w1 : va_W) => w1 = w ∧ post r) (fun w1 t => va_P D vwCl w1 t.heap) (va_A w H.size) a) (xW D w XE (va_A w H.size)) (va_A w H.size)) (hD : va_D A w) (hS : va_S A s.heap H locs) (hA : ∀ q, s.heap.size ≤ q → A q)
    (kx : ∀ (E : String) (ce : Cell) (q9 : Addr) (H1 : Heap) (locs1 : List Loc), XE E → va_P D vwCl w H1 → va_S A s.heap H1 locs1 → H1[q9]? = some ce → ce.vm = .none → s.vm.findClass E = some ce.cls → vx_W p l e R s m args below meth c H1 locs1 (cells + mc) (slots + ms) Q (F0 m pc ls rest) q9)
    (kk : ∀ (r : Int32) (H1 : Heap) (locs1 : List Loc), post r → va_P D vwCl w H1 → va_S A s.heap H1 locs1 → W p l e R s m args below meth c H1 locs1 (cells + mc) (slots + ms) Q (F0 m (pc + 3) ls (.int r :: rest))) : W p l e R s m args below meth c H locs cells slots Q (F0 m pc ls st0) := by
  have hF := lz_freeA hD (List.Perm.of_eq (List.append_nil w).symm) hS hA
  refine vx_calli hr hS (fun q _ h => hF q h) hF (fun q _ h => hF q h) (fun E ce q9 u t H1 locs1 ht _ hu hB _ _ hS h1 h2 h3 => ?_) (fun r u t H1 locs1 ht _ hpo hB _ _ hS => ?_)
  · subst hu
    exact kx E ce q9 H1 locs1 hB.1 (by rw [← ht]; exact hB.2) hS h1 h2 h3
  · obtain ⟨rfl, hpo⟩ := hpo
    exact kk r H1 locs1 hpo (by rw [← ht]; exact hB) hS
abbrev lxN : List String := ["java/lang/RuntimeException", "java/lang/Exception"]
/-- throw new E("text") in a method of StateKeeper -/
theorem lx_throw {E text : String} {ik is ic : Nat} (hE : E ∈ am_c) (hstr : (is, text) ∈ am_str) (hC : cx p l m c s args A D cI cF cQ aT cc nL Ts RX3) (hx : p.tables.exec = Jvm.exec) (hb : c.code = cc) (htab : ∀ x ∈ c.exceptionTable.toList, False) (hlk : meth.locks = false) (hl : lv_has ls nL lv) (hP : va_P D vwCl w H) (hS : va_S A s.heap H locs)
    (hk : (Cond.classLink RX3 ik E).before args s = true) (hini : (Cond.initialized E).before args s = true) (hat : ∀ v ∈ (vx_atS RX3 ic E lxN).filter goodWord, v ∈ Ts) (hno : ∀ v ∈ (vx_atS RX3 ic E lxN).filter (fun v => !goodWord v), v ∈ Cond.castable E E :: am_d.map Cond.declares) (hfit : Bundle.fit E = true) (hgood : ∀ v ∈ Cond.classLink RX3 ik E :: Cond.initialized E :: vx_atS RX3 ic E lxN, vx_ot v = true)
    (d0 : decode cc pc = .ok (.new ik, 3)) (d3 : decode cc (pc + 3) = .ok (.dup, 1)) (d4 : decode cc (pc + 4) = .ok (.ldc is, 2)) (d6 : decode cc (pc + 6) = .ok (.invokespecial ic, 3)) (d9 : decode cc (pc + 9) = .ok (.athrow, 1))
    (hRf : 5 < R.frames) (hRl : (rest.map fun v => v.category).sum + 82 ≤ R.locals) (hRc : cells + 1 ≤ R.cells) (hRs : slots + 6 ≤ R.slots) (hXE : XE' E) (hc : cells + 1 ≤ mc) (hs : slots + 6 ≤ ms) :
    W p l e R s m args below meth c H locs cells slots (vx_MQ below Qc (xW D w XE' A) args s mc ms A) (F0 m pc ls rest) := by
  obtain ⟨⟨-, -, hml, hown, hts⟩, hA, hAT, ham⟩ := hC
  obtain ⟨-, -, -, hst, hca, hU, hN, -, -, -, -, hl0⟩ := ham
  obtain ⟨sa, hsa⟩ := hst _ hstr
  have hnar : ∀ q, A q → q ≠ aT := fun q h e => hAT (e ▸ h)
  refine vx_throwS (names := lxN) (sa := sa) (text := text) (A := A) hx hb hl0 hown hfit (by decide) hk hini hsa (vx_hat (fun v hv => hts v (hat v hv)) hno (vx_c (va_Nw.use rfl (hca.1 E hE)) (fun v9 hv9 => by
    obtain ⟨q9, hq9, rfl⟩ := List.mem_map.mp hv9
    exact va_Nw.use rfl (hca.2 q9 hq9)))) hgood (hU.narrow hnar) (hN.narrow hnar) hS (hl.1.trans hml.symm) d0 d3 d4 d6 d9 (fun x hx => (htab x hx).elim) hRf hRl hRc hRs hlk (fun t ha hz hk => ?_) hS.2.2 hc hs
  refine ⟨w, rfl, ⟨hXE, hP.kept (fun k q hq => hk q.1 ((hP k q hq).lt))⟩, ?_⟩
  exact ⟨Nat.le_trans hS.1 hz, fun q h1 h2 => (hk q (Nat.lt_of_lt_of_le h1 hS.1)).trans (hS.2.1 q h1 h2)⟩
end THROW
