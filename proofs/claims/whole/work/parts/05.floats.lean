/-! floats: which results are no NaN, which are finite; the held number -/
abbrev fF (x : UInt32) : Prop := FP.Core.FFin x
abbrev fN (x : UInt32) : Prop := FP.Core.fIsNaN x = false
theorem fl_n32 {x : UInt32} (h : fN x) : vf_n32 x := by
  have h1 := (FP.Core.ne_nan32 x).mp ((FP.Core.notNaN_iff32 x).mp h)
  unfold vf_n32
  rw [UInt32.le_iff_toNat_le, UInt32.toNat_and]
  have e : (0x7fffffff : UInt32).toNat = 2 ^ 31 - 1 := by decide
  rw [e, Nat.and_two_pow_sub_one_eq_mod]
  exact h1
theorem fl_F {x : UInt32} (h : fF x) : fN x := FP.Core.FFin.notNaN h
theorem fl_add {x y : UInt32} (hx : fN x) (hy : fF y) : fN (FP.fadd x y) := FP.Core.fadd_out hx hy
theorem fl_add' {x y : UInt32} (hx : fF x) (hy : fN y) : fN (FP.fadd x y) := FP.Core.fadd_out' hx hy
theorem fl_mul {x y : UInt32} (hx : fF x) (hy : fF y) : fN (FP.fmul x y) := FP.Core.fmul_out hx hy
theorem fl_f2d {x : UInt32} (h : fF x) : vf_n64 (FP.f2d x) := by
  have hn : FP.Core.fIsNaN x = false := FP.Core.FFin.notNaN h
  have e : FP.f2d x = FP.Core.f2d x := by
    unfold FP.f2d
    rw [hn]
    rfl
  rw [e]
  have h1 := (FP.Core.ne_nan _).mp (FP.Core.DFin.ne_nan (FP.Core.f2d_fin h))
  unfold vf_n64
  rw [UInt64.le_iff_toNat_le, UInt64.toNat_and]
  have e : (0x7fffffffffffffff : UInt64).toNat = 2 ^ 63 - 1 := by decide
  rw [e, Nat.and_two_pow_sub_one_eq_mod]
  exact h1
def cN : UInt32 := 3347054592
def cP : UInt32 := 1199570944
theorem cN_F : fF cN := (FP.Core.fin_bits32 _).mpr (by decide)
theorem cP_F : fF cP := (FP.Core.fin_bits32 _).mpr (by decide)
theorem c0_F : fF FP.fconst0 := (FP.Core.fin_bits32 _).mpr (by decide)
theorem c0_Z : FP.Core.FZero FP.fconst0 := ⟨false, _, FP.Core.val32_fconst0⟩
/-- no infinity and no NaN: not below the one bound, not above the other -/
theorem fl_in {x a b : UInt32} (ha : fF a) (hb : fF b) (h1 : ¬ FP.fcmp x a = some .lt) (h2 : ¬ FP.fcmp x b = some .gt) (hx : fN x) : fF x := by
  have hn := (FP.Core.notNaN_iff32 x).mp hx
  obtain ⟨s, c, q, ea⟩ := ha
  obtain ⟨t, d, r, eb⟩ := hb
  cases ev : FP.Core.val32 x with
  | nan => exact absurd ev hn
  | fin s c q => exact ⟨s, c, q, ev⟩
  | inf u =>
    have k1 : FP.fcmp x a = some (compare (FP.Core.signed u 1) 0) := by
      show FP.Core.order (FP.Core.val32 x) (FP.Core.val32 a) = _
      rw [ev, ea]; rfl
    have k2 : FP.fcmp x b = some (compare (FP.Core.signed u 1) 0) := by
      show FP.Core.order (FP.Core.val32 x) (FP.Core.val32 b) = _
      rw [ev, eb]; rfl
    cases u
    · exact absurd (k2.trans (by decide)) h2
    · exact absurd (k1.trans (by decide)) h1
theorem fl_add0 {x : UInt32} (hx : fF x) : fF (FP.fadd x FP.fconst0) := by
  have h := (FP.Core.fadd_zero_eq hx c0_Z).1
  have hn : FP.Core.val32 (FP.fadd x FP.fconst0) ≠ .nan := (FP.Core.notNaN_iff32 _).mp (FP.Core.fadd_out (FP.Core.FFin.notNaN hx) c0_F)
  obtain ⟨s, c, q, e⟩ := hx
  cases ev : FP.Core.val32 (FP.fadd x FP.fconst0) with
  | nan => exact absurd ev hn
  | fin s c q => exact ⟨s, c, q, ev⟩
  | inf u =>
    have k : FP.Core.fcmp (FP.fadd x FP.fconst0) x = some (compare (FP.Core.signed u 1) 0) := by
      show FP.Core.order (FP.Core.val32 _) (FP.Core.val32 x) = _
      rw [ev, e]; rfl
    rw [k] at h
    cases u
    · exact absurd h (by decide)
    · exact absurd h (by decide)
/-- what fcmpg, ifge and fcmpl, ifle make of a number: held -/
def heldF (x : UInt32) : UInt32 := if FP.fcmp x cN = some .lt then cN else if FP.fcmp x cP = some .gt then cP else FP.fadd x FP.fconst0
theorem heldF_F {x : UInt32} (hx : fN x) : fF (heldF x) := by
  unfold heldF
  split
  · exact cN_F
  · split
    · exact cP_F
    · exact fl_add0 (fl_in cN_F cP_F (by assumption) (by assumption) hx)
theorem fl_ltg (x y : UInt32) : Op.cmpValue (FP.fcmp x y) .g < 0 ↔ FP.fcmp x y = some .lt := by
  cases FP.fcmp x y with
  | none => decide
  | some o => cases o <;> decide
theorem fl_geg (x y : UInt32) : 0 ≤ Op.cmpValue (FP.fcmp x y) .g ↔ ¬ FP.fcmp x y = some .lt := by
  cases FP.fcmp x y with
  | none => decide
  | some o => cases o <;> decide
theorem fl_gtl (x y : UInt32) : 0 < Op.cmpValue (FP.fcmp x y) .l ↔ FP.fcmp x y = some .gt := by
  cases FP.fcmp x y with
  | none => decide
  | some o => cases o <;> decide
theorem fl_lel (x y : UInt32) : Op.cmpValue (FP.fcmp x y) .l ≤ 0 ↔ ¬ FP.fcmp x y = some .gt := by
  cases FP.fcmp x y with
  | none => decide
  | some o => cases o <;> decide
/-- a ≤ x, as fcmpl and iflt have it -/
theorem fl_ltl (x y : UInt32) : Op.cmpValue (FP.fcmp x y) .l < 0 ↔ ¬ (FP.fcmp x y = some .gt ∨ FP.fcmp x y = some .eq) := by
  cases FP.fcmp x y with
  | none => decide
  | some o => cases o <;> decide
theorem fl_leg (x y : UInt32) : Op.cmpValue (FP.fcmp x y) .g ≤ 0 ↔ (FP.fcmp x y = some .lt ∨ FP.fcmp x y = some .eq) := by
  cases FP.fcmp x y with
  | none => decide
  | some o => cases o <;> decide
theorem fl_gtg (x y : UInt32) : 0 < Op.cmpValue (FP.fcmp x y) .g ↔ ¬ (FP.fcmp x y = some .lt ∨ FP.fcmp x y = some .eq) := by
  cases FP.fcmp x y with
  | none => decide
  | some o => cases o <;> decide
theorem fl_gel (x y : UInt32) : 0 ≤ Op.cmpValue (FP.fcmp x y) .l ↔ (FP.fcmp x y = some .gt ∨ FP.fcmp x y = some .eq) := by
  cases FP.fcmp x y with
  | none => decide
  | some o => cases o <;> decide
theorem fl_eql (x y : UInt32) : Op.cmpValue (FP.fcmp x y) .l = 0 ↔ FP.fcmp x y = some .eq := by
  cases FP.fcmp x y with
  | none => decide
  | some o => cases o <;> decide
/-- within two bounds -/
def inF (a b x : UInt32) : Prop := (FP.fcmp x a = some .gt ∨ FP.fcmp x a = some .eq) ∧ (FP.fcmp x b = some .lt ∨ FP.fcmp x b = some .eq)
theorem inF_F {a b x : UInt32} (ha : fF a) (hb : fF b) (h : inF a b x) : fF x := by
  obtain ⟨h1, h2⟩ := h
  refine fl_in ha hb (fun e => ?_) (fun e => ?_) ?_
  · rw [e] at h1; rcases h1 with h | h <;> cases h
  · rw [e] at h2; rcases h2 with h | h <;> cases h
  · refine (FP.Core.notNaN_iff32 x).mpr (fun e => ?_)
    have : FP.fcmp x a = none := (FP.Core.fcmp_none x a).mpr (Or.inl e)
    rw [this] at h1
    rcases h1 with h | h <;> cases h
def c4N : UInt32 := 3229614080
def c4P : UInt32 := 1082130432
theorem c4N_F : fF c4N := (FP.Core.fin_bits32 _).mpr (by decide)
theorem c4P_F : fF c4P := (FP.Core.fin_bits32 _).mpr (by decide)
/-- what an input does to a cell's number, ahead of holding it -/
def chg (x : UInt32) (w : Nat) (v : UInt32) : UInt32 := if w = 0 then v else if w = 1 then FP.fadd x v else FP.fmul x v
theorem chg_N {x v : UInt32} {w : Nat} (hx : fF x) (hv : fF v) : fN (chg x w v) := by
  unfold chg
  split
  · exact fl_F hv
  · split
    · exact fl_add' hx (fl_F hv)
    · exact fl_mul hx hv
/-- cells that are all finite -/
def cfin (c : Nat → UInt32) : Prop := ∀ i, fF (c i)
theorem cfin_upd {c : Nat → UInt32} {k : Nat} {x : UInt32} (h : cfin c) (hx : fF x) : cfin (vf_upd c k x) := by
  intro i
  unfold vf_upd
  split
  · exact hx
  · exact h i
theorem cfin_0 : cfin (fun _ => FP.fconst0) := fun _ => c0_F
