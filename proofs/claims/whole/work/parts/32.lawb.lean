/-! the law: its world, a case's start and end -/
def c8 : UInt32 := 1040187392
theorem c8_F : fF c8 := (FP.Core.fin_bits32 _).mpr (by decide)
theorem i2f_F (z : Int32) : fF (FP.i2f z) := FP.Core.i2f_fin z
theorem fl_f2dN {x : UInt32} (hn : fN x) : vf_n64 (FP.f2d x) := by
  have e : FP.f2d x = FP.Core.f2d x := by
    unfold FP.f2d
    rw [hn]
    rfl
  rw [e]
  have h1 := (FP.Core.ne_nan _).mp ((FP.Core.notNaN_iff _).mp (FP.Core.f2d_out hn))
  unfold vf_n64
  rw [UInt64.le_iff_toNat_le, UInt64.toNat_and]
  have e : (0x7fffffffffffffff : UInt64).toNat = 2 ^ 63 - 1 := by decide
  rw [e, Nat.and_two_pow_sub_one_eq_mod]
  exact h1
theorem fl_dself {x : UInt32} (hn : fN x) : FP.dcmp (FP.f2d x) (FP.f2d x) = some .eq := by
  have e : FP.f2d x = FP.Core.f2d x := by
    unfold FP.f2d
    rw [hn]
    rfl
  rw [e]
  exact FP.Core.dcmp_self ((FP.Core.notNaN_iff _).mp (FP.Core.f2d_out hn))
theorem lg_self (a : Int64) : lg_cmp a a = 0 := by
  unfold lg_cmp
  simp
theorem rel_eq {x y : St} (h : Rel x y) : ∃ M, y = stL x M ∧ LR (sL x) M := by
  obtain ⟨c, T, d, L, S⟩ := x
  obtain ⟨c', T', d', M, S'⟩ := y
  obtain ⟨h1, h2, h3, h4, h5⟩ := h
  cases h1; cases h2; cases h3; cases h4
  exact ⟨M, rfl, h5⟩
section PL
variable {α : Type}
theorem lw_pJ (a b : α) (c m : List α) : (a :: b :: (c ++ m)).Perm ((a :: c) ++ (b :: m)) := (List.perm_middle (a := b) (l₁ := c) (l₂ := m)).symm.cons a
theorem lw_pD (a b : α) (c m : List α) : (a :: b :: (c ++ m)).Perm ((b :: c) ++ (a :: m)) := (List.Perm.swap b a (c ++ m)).trans (lw_pJ b a c m)
theorem lw_pM (a b : α) (c m : List α) : (a :: b :: (c ++ m)).Perm (m ++ (a :: b :: c)) := List.perm_append_comm (l₁ := a :: b :: c) (l₂ := m)
theorem lw_pC (a b : α) (c m : List α) : (a :: b :: (c ++ m)).Perm (c ++ (a :: b :: m)) := by
  have h1 : (a :: b :: (c ++ m)).Perm ((c ++ [a, b]) ++ m) := (List.perm_append_comm (l₁ := [a, b]) (l₂ := c)).append_right m
  rw [List.append_assoc] at h1
  exact h1
end PL
section LAWB
variable {p : Program} {l : Launch} {e : Env} {R : Room} {s : State} {m : MethodId} {args : Array Value} {below : List Frame} {meth : Method} {c : Code} {H : Heap} {locs : List Loc} {cells slots : Nat} {Q : State → Prop}
variable {cc : ByteArray} {pc : Nat} {ls : Array Slot} {rest : List Value} {D : va_G} {A : Nat → Prop} {a b L k : Nat} {cJ cD : ClassId} {ws : va_W} {H0 : Heap} {xs : Nat → Int32}
theorem lz_sld (hexec : p.tables.exec = Jvm.exec) (hb : c.code = cc) (hX : va_X b L xs s H0) (hbl : b < H0.size) (hbA : ¬ A b) (hS : va_S A H0 H locs) (hk : k < L) (hL : L < 2 ^ 31) (hdg : decode cc pc = .ok (.iaload, 1))
    (kk : W p l e R s m args below meth c H locs cells slots Q (F0 m (pc + 1) ls (.int (xs k) :: rest))) : W p l e R s m args below meth c H locs cells slots Q (F0 m pc ls (.int (nI k) :: .ref b :: rest)) := by
  refine va_sld hexec hb hX hbl hbA hS (vp_in_nI hk hL) hdg ?_
  rw [nI_clamp (Nat.lt_trans hk hL)]
  exact kk
theorem lz_lald {f : Nat → Int64} (hexec : p.tables.exec = Jvm.exec) (hb : c.code = cc) (hK : va_K D vwCl (tysJ cJ cD) s) (hP : va_P D vwCl ((a, .inl (cJ, 1, .inr (.inl f))) :: ws) H) (hdg : decode cc pc = .ok (.laload, 1))
    (kk : W p l e R s m args below meth c H locs cells slots Q (F0 m (pc + 1) ls (.long (f 0) :: rest))) : W p l e R s m args below meth c H locs cells slots Q (F0 m pc ls (.int (nI 0) :: .ref a :: rest)) := by
  refine va_lald hexec hb hK hP 0 0 rfl rfl (vp_in_nI (by omega) (by omega)) hdg ?_
  rw [nI_clamp (by omega)]
  exact kk
theorem lz_dald {x1 : Nat × va_E} {f : Nat → UInt64} (hexec : p.tables.exec = Jvm.exec) (hb : c.code = cc) (hK : va_K D vwCl (tysJ cJ cD) s) (hP : va_P D vwCl (x1 :: (a, .inl (cD, 1, .inr (.inr (.inr (.inl f))))) :: ws) H) (hdg : decode cc pc = .ok (.daload, 1))
    (kk : W p l e R s m args below meth c H locs cells slots Q (F0 m (pc + 1) ls (.double (f 0) :: rest))) : W p l e R s m args below meth c H locs cells slots Q (F0 m pc ls (.int (nI 0) :: .ref a :: rest)) := by
  refine va_dald hexec hb hK hP 1 1 rfl rfl (vp_in_nI (by omega) (by omega)) hdg ?_
  rw [nI_clamp (by omega)]
  exact kk
end LAWB
abbrev eJ (cJ : ClassId) (aJ : Nat) (f : Nat → Int64) : Nat × va_E := (aJ, .inl (cJ, 1, .inr (.inl f)))
abbrev eD (cD : ClassId) (aD : Nat) (f : Nat → UInt64) : Nat × va_E := (aD, .inl (cD, 1, .inr (.inr (.inr (.inl f)))))
abbrev lwA (s : State) : Nat → Prop := fun q => s.heap.size ≤ q
/-- the law's context -/
def lwC (p : Program) (l : Launch) (m : MethodId) (c : Code) (s : State) (b L : Nat) (xs : Nat → Int32) (D : va_G) (cI cF cQ cJ cD : ClassId) (aT : Nat) : Prop :=
  cx p l m c s #[Value.ref b] (lwA s) D cI cF cQ aT cL_law 10 wsL_law RL ∧ va_K D vwCl (tysJ cJ cD) s ∧ va_X b L xs s s.heap ∧ b < s.heap.size ∧ L ≤ 3073
/-- the two sides, j calls done -/
def LI (cI cF cQ : ClassId) (o u : Nat → Nat) (n j ev : Nat) (R : List dI) (x y : St) (th : Int32) (wC wM : va_W) : Prop :=
  WC cI cF cQ o n ev R x wC ∧ WM cI cF u n ev th R y wM ∧ Rel x y ∧ Ok n ev R x ∧ srt (sL x) ∧ sT x ≤ 64 * j
abbrev lwL (b a0 a1 aJ aD i : Nat) : List (Nat × Value) := [(5, .int (nI i)), (0, .ref b), (1, .ref a0), (2, .ref a1), (3, .ref aJ), (4, .ref aD)]
/-- a call's end: the next place -/
def lwN (p : Program) (l : Launch) (e : Env) (m : MethodId) (c : Code) (s : State) (below : List Frame) (meth : Method) (b : Nat) (D : va_G) (cI cF cQ cJ cD : ClassId) (o u : Nat → Nat) (aJ aD n j : Nat) : Prop :=
  ∀ (ev : Nat) (R : List dI) (x y : St) (th : Int32) (wC wM : va_W) (fJ : Nat → Int64) (fD : Nat → UInt64), LI cI cF cQ o u n (j + 1) ev R x y th wC wM → ∀ (H : Heap) (locs : List Loc) (ls : Array Slot), va_P D vwCl (eJ cJ aJ fJ :: eD cD aD fD :: (wC ++ wM)) H → va_D (lwA s) (eJ cJ aJ fJ :: eD cD aD fD :: (wC ++ wM)) → va_S (lwA s) s.heap H locs → lv_has ls 10 (lwL b (o 0) (u 0) aJ aD (1 + 6 * j)) →
    W p l e room_1 s m #[Value.ref b] below meth c H locs (46 + 8 * j + 8) (13635 + 48 * j + 48) (lw_Z below #[Value.ref b] s) (F0 m 1310 ls [])
