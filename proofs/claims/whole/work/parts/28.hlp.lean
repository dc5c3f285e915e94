/-! the law's helpers: they call the class, and catch what it throws -/
abbrev tysJ (cJ cD : ClassId) : List (ClassId × FieldType) := [(cJ, .long), (cD, .double)]
def pcL (l : Launch) (D : va_G) (cI cF cQ : ClassId) (aT : Nat) (cJ cD : ClassId) (av : List Value) (w : va_W) (sz : Nat) : Array Value → State → Prop :=
  va_Pc av (fun U => U.heap.size = sz ∧ va_P D vwCl w U.heap ∧ va_D (fun q => q ≠ aT) w ∧ am l D cI cF cQ aT U ∧ va_K D vwCl (tysJ cJ cD) U)
theorem pcL_blind {l : Launch} {D : va_G} {cI cF cQ cJ cD : ClassId} {aT : Nat} {av : List Value} {w : va_W} {sz : Nat} : FrameBlind (pcL l D cI cF cQ aT cJ cD av w sz) := by
  intro a U g mk q
  obtain ⟨q0, q1, q2, q3, q4, q5⟩ := q
  exact ⟨q0, q1, q2, q3, am.at (U := U.calling g mk a) q4 (State.WarmedH.refl U) rfl, va_K.moved (u := U) (U := U.calling g mk a) (Vm.Alike.refl U.vm) q5⟩
section OFH
variable {l : Launch} {D : va_G} {cI cF cQ cJ cD : ClassId} {aT : Nat}
theorem lz_ofH {y : MethodName} {ws ws' : List Cond} {rm : Room} {Qf : (Nat → Prop) → Array Value → State → Outcome → State → Prop} {mc ms : Nat} {cc : ByteArray} {maxL : Nat} {ret : Option FieldType} {hh : List (Nat × Nat × Nat × Nat)} {av : List Value} {w : va_W} {sz : Nat}
    (hy : plainName y.cls = true) (hw : ws = Cond.codeWith y cc maxL ret hh :: ws') (hlen : (lg_sl av).length ≤ maxL)
    (body : ∀ (p : Program) (e : Env) (s : State) (m : MethodId) (below : List Frame) (meth : Method) (c : Code) (A : Nat → Prop), va_A w s.heap.size = A → s.heap.size = sz → c.exceptionTable.toList = tableOf hh → p.tables.exec = Jvm.exec → c.code = cc → meth.sig.returnType = ret → meth.locks = false → cx p l m c s av.toArray A D cI cF cQ aT cc maxL ws y.cls → va_K D vwCl (tysJ cJ cD) s → va_P D vwCl w s.heap → va_D A w → va_S A s.heap s.heap [] → ∀ ls : Array Slot, lv_has ls maxL (lv_args 0 av) →
      W p l e rm s m av.toArray below meth c s.heap [] 0 0 (MQ below (Qf A) av.toArray s mc ms A) (F0 m 0 ls [])) : Met l y ws rm (pcL l D cI cF cQ aT cJ cD av w sz) (Qf (va_A w sz)) mc ms (va_A w sz) := by
  refine MetFree.of_bodyS (code := cc) (maxLocals := maxL) (ret := ret) hy ?_ ?_
  · intro args s m h hn
    obtain ⟨m9, meth, c, hn9, h1, h2, h3, h4, -, h5, h6, -⟩ := Cond.codeWith_spec (atoms_spec (ws := ws) h _ (by rw [hw]; exact List.mem_cons_self))
    cases hn.symm.trans hn9
    exact ⟨meth, c, h1, h2, h3, h4, h5, h6⟩
  · intro p e s m args below meth c s₁ B hml hv _
    obtain ⟨rfl, hsz, hP, hD0, ham, hKJ⟩ := hv
    have hts := atoms_spec (ws := ws) B.pre
    have hown : s.vm.findClass y.cls = some m.cls := findClass_of_methodNamed B.named
    have htab : c.exceptionTable.toList = tableOf hh := vx_table (x := y) B (hts (Cond.codeWith y cc maxL ret hh) (by rw [hw]; exact List.mem_cons_self))
    have hh0 : s₁.heap = s.heap := by rw [B.state]; rfl
    have hb : W p l e rm s m av.toArray below meth c s.heap [] 0 0 (MQ below (Qf (va_A w s.heap.size)) av.toArray s mc ms (va_A w s.heap.size)) (entryFrame m av.toArray maxL) := by
      rw [lg_entry_eq]
      refine body p e s m below meth c (va_A w s.heap.size) rfl hsz htab B.exec B.bytes B.returns B.notSynchronized ⟨⟨B.exec, B.bytes, hml, hown, hts⟩, fun q h => Or.inr h, ?_, ham⟩ hKJ hP hD0.self va_S.rf _ (lv_entry av hlen)
      intro h
      rcases lz_inA.mp h with h1 | h1
      · obtain ⟨x, hx, e1⟩ := List.mem_map.mp h1
        exact (va_D_iff.mp hD0).2 x hx e1
      · exact absurd ham.lt (by omega)
    rw [hsz] at hb
    obtain ⟨t, a1, o, b1, b2, b3⟩ := hb s₁ hh0 (Stand.of_body B)
    exact ⟨t, o, a1, b1, b2, ⟨b3.1, b3.2⟩⟩
end OFH
section RUNH
variable {p : Program} {l : Launch} {e : Env} {R : Room} {s : State} {m : MethodId} {args : Array Value} {below : List Frame} {meth : Method} {c : Code} {H : Heap} {locs : List Loc} {cells slots : Nat} {Q : State → Prop}
variable {D : va_G} {cI cF cQ cJ cD : ClassId} {aT : Nat} {A : Nat → Prop} {cc bytes : ByteArray} {nL maxL mc ms n index pc : Nat} {Ts ws : List Cond} {own C host : String} {y : MethodName} {ret : Option FieldType} {rm : Room} {Qc : Array Value → State → Outcome → State → Prop} {free : Addr → Prop} {b : Nat} {As rest st0 : List Value} {ls : Array Slot} {lv : List (Nat × Value)} {wc wr w : va_W} {hh : List (Nat × Nat × Nat × Nat)} {XE : String → Prop}
theorem lz_runSH (hC : cx p l m c s args A D cI cF cQ aT cc nL Ts own) (hKJ : va_K D vwCl (tysJ cJ cD) s) (hS : va_S A s.heap H locs) (hl : lv_has ls nL lv) (hM : Met l y ws rm (pcL l D cI cF cQ aT cJ cD As wc H.size) Qc mc ms free) (cw : vx_CSW R s args own index y bytes maxL ret hh ws rm mc ms n) (hP : va_P D vwCl wc H) (hD : va_D A wc)
    (hn : As.length = n) (hst : st0 = As.reverse ++ rest) (h8 : (rest.map fun v => v.category).sum ≤ 8) (hdg : decode cc pc = .ok (.invokestatic index, 3)) (hf : cells + mc ≤ R.cells ∧ slots + ms ≤ R.slots) :
    va_Run p l e R s m args below meth c H locs cells slots mc ms (F0 m pc ls st0) rest (Qc As.toArray) free := by
  refine vx_runSW hC.1 hM cw ⟨pcL_blind, fun U hU hW => ?_⟩ rfl hn hl.1 hst (lz_w8 h8) hdg hf
  obtain ⟨h0, h1, h2, h3, h4⟩ := lz_pre (av := As) hC hS hP hD U hU hW
  exact ⟨h0, h1, h2, h3, h4, va_K.moved hW.alike hKJ⟩
/-- a call that may throw, on a part of the world: int -/
theorem lx_cPi {post : Int32 → va_W → Prop} {a : Array Value} (hr : vx_Run p l e R s m args below meth c H locs cells slots mc ms (F0 m pc ls st0) rest (va_Qi post (fun w1 t => va_P D vwCl w1 t.heap) (va_A wc H.size) a) (xW D wc XE (va_A wc H.size)) (va_A wc H.size)) (hP : va_P D vwCl w H) (hD : va_D A w) (hS : va_S A s.heap H locs) (hA : ∀ q, s.heap.size ≤ q → A q) (hp : w.Perm (wc ++ wr)) (ha : ∀ r w1, post r w1 → w1.map Prod.fst = wc.map Prod.fst)
    (kx : ∀ (E : String) (ce : Cell) (q9 : Addr) (H1 : Heap) (locs1 : List Loc), XE E → va_P D vwCl (wc ++ wr) H1 → va_D A (wc ++ wr) → va_S A s.heap H1 locs1 → H1[q9]? = some ce → ce.vm = .none → s.vm.findClass E = some ce.cls → vx_W p l e R s m args below meth c H1 locs1 (cells + mc) (slots + ms) Q (F0 m pc ls rest) q9)
    (kk : ∀ (r : Int32) (w1 : va_W) (H1 : Heap) (locs1 : List Loc), post r w1 → va_P D vwCl (w1 ++ wr) H1 → va_D A (w1 ++ wr) → va_S A s.heap H1 locs1 → W p l e R s m args below meth c H1 locs1 (cells + mc) (slots + ms) Q (F0 m (pc + 3) ls (.int r :: rest))) : W p l e R s m args below meth c H locs cells slots Q (F0 m pc ls st0) := by
  have hF := lz_freeA hD hp hS hA
  refine vx_calli hr hS (fun q _ h => hF q h) hF (fun q _ h => hF q h) (fun E ce q9 u t H1 locs1 ht _ hu hB _ hk hS h1 h2 h3 => ?_) (fun r w1 t H1 locs1 ht _ hpo hB _ hk hS => ?_)
  · subst hu
    obtain ⟨g1, g2⟩ := lz_join hP hD hp hk (by rw [← ht]; exact hB.2) rfl
    exact kx E ce q9 H1 locs1 hB.1 g1 g2 hS h1 h2 h3
  · obtain ⟨g1, g2⟩ := lz_join hP hD hp hk (by rw [← ht]; exact hB) (ha r w1 hpo)
    exact kk r w1 H1 locs1 hpo g1 g2 hS
/-- .. float -/
theorem lx_cPf {post : UInt32 → va_W → Prop} {a : Array Value} (hr : vx_Run p l e R s m args below meth c H locs cells slots mc ms (F0 m pc ls st0) rest (va_Qf post (fun w1 t => va_P D vwCl w1 t.heap) (va_A wc H.size) a) (xW D wc XE (va_A wc H.size)) (va_A wc H.size)) (hP : va_P D vwCl w H) (hD : va_D A w) (hS : va_S A s.heap H locs) (hA : ∀ q, s.heap.size ≤ q → A q) (hp : w.Perm (wc ++ wr)) (ha : ∀ r w1, post r w1 → w1.map Prod.fst = wc.map Prod.fst)
    (kx : ∀ (E : String) (ce : Cell) (q9 : Addr) (H1 : Heap) (locs1 : List Loc), XE E → va_P D vwCl (wc ++ wr) H1 → va_D A (wc ++ wr) → va_S A s.heap H1 locs1 → H1[q9]? = some ce → ce.vm = .none → s.vm.findClass E = some ce.cls → vx_W p l e R s m args below meth c H1 locs1 (cells + mc) (slots + ms) Q (F0 m pc ls rest) q9)
    (kk : ∀ (r : UInt32) (w1 : va_W) (H1 : Heap) (locs1 : List Loc), post r w1 → va_P D vwCl (w1 ++ wr) H1 → va_D A (w1 ++ wr) → va_S A s.heap H1 locs1 → W p l e R s m args below meth c H1 locs1 (cells + mc) (slots + ms) Q (F0 m (pc + 3) ls (.float r :: rest))) : W p l e R s m args below meth c H locs cells slots Q (F0 m pc ls st0) := by
  have hF := lz_freeA hD hp hS hA
  refine vx_callf hr hS (fun q _ h => hF q h) hF (fun q _ h => hF q h) (fun E ce q9 u t H1 locs1 ht _ hu hB _ hk hS h1 h2 h3 => ?_) (fun r w1 t H1 locs1 ht _ hpo hB _ hk hS => ?_)
  · subst hu
    obtain ⟨g1, g2⟩ := lz_join hP hD hp hk (by rw [← ht]; exact hB.2) rfl
    exact kx E ce q9 H1 locs1 hB.1 g1 g2 hS h1 h2 h3
  · obtain ⟨g1, g2⟩ := lz_join hP hD hp hk (by rw [← ht]; exact hB) (ha r w1 hpo)
    exact kk r w1 H1 locs1 hpo g1 g2 hS
/-- a float's call that doesn't throw, on a part of the world -/
theorem lz_cMf {w2 : va_W → va_W} {post : UInt32 → va_W → Prop} {a : Array Value} (hr : va_Run p l e R s m args below meth c H locs cells slots mc ms (F0 m pc ls st0) rest (va_Qf post (fun w1 t => va_P D vwCl w1 t.heap) (va_A wc H.size) a) (va_A wc H.size)) (hP : va_P D vwCl w H) (hD : va_D A w) (hS : va_S A s.heap H locs) (hA : ∀ q, s.heap.size ≤ q → A q) (hp : w.Perm (wc ++ wr)) (ha : ∀ r w1, post r w1 → w1.map Prod.fst = wc.map Prod.fst) (hp2 : ∀ w1, (w1 ++ wr).Perm (w2 w1))
    (kk : ∀ (r : UInt32) (w1 : va_W) (H1 : Heap) (locs1 : List Loc), post r w1 → va_P D vwCl (w2 w1) H1 → va_D A (w2 w1) → va_S A s.heap H1 locs1 → W p l e R s m args below meth c H1 locs1 (cells + mc) (slots + ms) Q (F0 m (pc + 3) ls (.float r :: rest))) : W p l e R s m args below meth c H locs cells slots Q (F0 m pc ls st0) := by
  have hF := lz_freeA hD hp hS hA
  refine va_callf hr hS (fun q _ h => hF q h) hF (fun r w1 t H1 locs1 ht hvm hpo hB hz hk hS => ?_)
  obtain ⟨h1, h2⟩ := lz_join hP hD hp hk (by rw [← ht]; exact hB) (ha r w1 hpo)
  exact kk r w1 H1 locs1 hpo (lz_permP (hp2 w1) h1) (lz_permD (hp2 w1) h2) hS
end RUNH
section LD
variable {p : Program} {l : Launch} {e : Env} {R : Room} {s : State} {m : MethodId} {args : Array Value} {below : List Frame} {meth : Method} {c : Code} {H : Heap} {locs : List Loc} {cells slots : Nat} {Q : State → Prop}
variable {cc : ByteArray} {pc : Nat} {ls : Array Slot} {rest : List Value} {D : va_G} {A : Nat → Prop} {a : Nat} {cJ cD : ClassId} {ws : va_W} {H0 : Heap}
theorem lz_last {f : Nat → Int64} {x : Int64} (hexec : p.tables.exec = Jvm.exec) (hb : c.code = cc) (hK : va_K D vwCl (tysJ cJ cD) s) (hP : va_P D vwCl ((a, .inl (cJ, 1, .inr (.inl f))) :: ws) H) (hD : va_D A ((a, .inl (cJ, 1, .inr (.inl f))) :: ws)) (hS : va_S A H0 H locs) (hdg : decode cc pc = .ok (.lastore, 1))
    (kk : ∀ (H1 : Heap) (locs1 : List Loc), va_P D vwCl ((a, .inl (cJ, 1, .inr (.inl (vp_updL f 0 x)))) :: ws) H1 → va_D A ((a, .inl (cJ, 1, .inr (.inl (vp_updL f 0 x)))) :: ws) → va_S A H0 H1 locs1 → W p l e R s m args below meth c H1 locs1 cells slots Q (F0 m (pc + 1) ls rest)) : W p l e R s m args below meth c H locs cells slots Q (F0 m pc ls (.long x :: .int (nI 0) :: .ref a :: rest)) := by
  refine va_last hexec hb hK hP hD hS 0 0 rfl rfl (vp_in_nI (by omega) (by omega)) hdg (fun H1 locs1 h1 h2 h3 => ?_)
  rw [nI_clamp (by omega)] at h1 h2
  exact kk H1 locs1 h1 h2 h3
theorem lz_dast {f : Nat → UInt64} {x : UInt64} (hexec : p.tables.exec = Jvm.exec) (hb : c.code = cc) (hK : va_K D vwCl (tysJ cJ cD) s) (hP : va_P D vwCl ((a, .inl (cD, 1, .inr (.inr (.inr (.inl f))))) :: ws) H) (hD : va_D A ((a, .inl (cD, 1, .inr (.inr (.inr (.inl f))))) :: ws)) (hS : va_S A H0 H locs) (hdg : decode cc pc = .ok (.dastore, 1))
    (kk : ∀ (H1 : Heap) (locs1 : List Loc), va_P D vwCl ((a, .inl (cD, 1, .inr (.inr (.inr (.inl (vf_upd f 0 x)))))) :: ws) H1 → va_D A ((a, .inl (cD, 1, .inr (.inr (.inr (.inl (vf_upd f 0 x)))))) :: ws) → va_S A H0 H1 locs1 → W p l e R s m args below meth c H1 locs1 cells slots Q (F0 m (pc + 1) ls rest)) : W p l e R s m args below meth c H locs cells slots Q (F0 m pc ls (.double x :: .int (nI 0) :: .ref a :: rest)) := by
  refine va_dast hexec hb hK hP hD hS 0 1 rfl rfl (vp_in_nI (by omega) (by omega)) hdg (fun H1 locs1 h1 h2 h3 => ?_)
  rw [nI_clamp (by omega)] at h1 h2
  exact kk H1 locs1 h1 h2 h3
end LD
theorem lz_pc {α : Type} (x : α) (w : List α) : (x :: w).Perm (w ++ [x]) := by
  have h := List.perm_append_comm (l₁ := [x]) (l₂ := w)
  exact h
