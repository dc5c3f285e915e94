/-! what each call asks for and gives, for the class and for the reference -/
abbrev kn (n : Nat) (z : Int32) : Prop := 0 ≤ z.toInt ∧ z.toInt < (n : Int)
abbrev okW (q : Int32) (v : UInt32) : Prop := (0 ≤ q.toInt ∧ q.toInt ≤ 2) ∧ inF cN cP v
abbrev tn (z : Int32) : Nat := z.toInt.toNat
theorem tn_nI {a : Nat} (h : a < 2 ^ 31) : tn (nI a) = a := by
  show (nI a).toInt.toNat = a
  rw [nI_toInt h]
  rfl
/-- the code of a call: 0, or which of three kinds of refusal -/
def cdR (P1 P2 P3 : Prop) (k : Nat) : Prop := (P1 ∧ P2 ∧ P3 ∧ k = 0) ∨ (¬ P1 ∧ k = 1) ∨ (P1 ∧ ¬ P2 ∧ k = 2) ∨ (P1 ∧ P2 ∧ ¬ P3 ∧ k = 3)
theorem cdR_fun {P1 P2 P3 : Prop} {k j : Nat} (h : cdR P1 P2 P3 k) (h' : cdR P1 P2 P3 j) : k = j := by
  rcases h with ⟨a, b, c, rfl⟩ | ⟨a, rfl⟩ | ⟨a, b, rfl⟩ | ⟨a, b, c, rfl⟩ <;> rcases h' with ⟨a', b', c', rfl⟩ | ⟨a', rfl⟩ | ⟨a', b', rfl⟩ | ⟨a', b', c', rfl⟩ <;> first | rfl | (exfalso; first | exact a' a | exact a a' | exact b' b | exact b b' | exact c' c | exact c c')
theorem cdR_0 {P1 P2 P3 : Prop} {k : Nat} (h : cdR P1 P2 P3 k) (h0 : k = 0) : P1 ∧ P2 ∧ P3 := by
  subst h0
  rcases h with ⟨a, b, c, -⟩ | ⟨-, h⟩ | ⟨-, -, h⟩ | ⟨-, -, -, h⟩
  · exact ⟨a, b, c⟩
  all_goals cases h
theorem cdR_lt {P1 P2 P3 : Prop} {k : Nat} (h : cdR P1 P2 P3 k) : k < 4 := by
  rcases h with ⟨a, b, c, rfl⟩ | ⟨a, rfl⟩ | ⟨a, b, rfl⟩ | ⟨a, b, c, rfl⟩ <;> decide
theorem cdR_iff {P1 P2 P3 Q1 Q2 Q3 : Prop} {k : Nat} (h1 : P1 ↔ Q1) (h2 : P2 ↔ Q2) (h3 : P3 ↔ Q3) (h : cdR P1 P2 P3 k) : cdR Q1 Q2 Q3 k := by
  rw [propext h1, propext h2, propext h3] at h
  exact h
/-- which exception for which kind -/
def xc (E1 E2 E3 : String) (P1 P2 P3 : Prop) (E : String) : Prop := (E = E1 ∧ ¬ P1) ∨ (E = E2 ∧ P1 ∧ ¬ P2) ∨ (E = E3 ∧ P1 ∧ P2 ∧ ¬ P3)
/-- the inputs of a step, in their order -/
abbrev fl (L : List rI) (z : Int) : List rI := L.filter (fun e => decide ((e.1 : Int) = z))
theorem fl_len (L : List rI) (z : Int) : (fl L z).length = cq L z := (List.countP_eq_length_filter).symm
def rget (L : List rI) (z : Int) (k : Nat) : rI := ((fl L z)[k]?).getD (0, 0, 0, 0)
/-- k inputs, one after another -/
def insN (put : List rI → rI → List rI) (f : Nat → rI) : Nat → List rI → List rI
  | 0, L => L
  | k + 1, L => put (insN put f k L) (f k)
abbrev stL (x : St) (L : List rI) : St := (sc x, sT x, sd x, L, sS x)
def inN (T : Nat) (u b q : Int32) (v : UInt32) (i : Nat) : rI := (T, (u.toInt + (i : Int) * b.toInt).toNat, tn q, v)
/-- the snapshot of a step: its cells -/
def sgt (S : List sE) (z : Int) : Nat → UInt32 := match plc S z with
  | some j => match S[j]? with
    | some e => e.2
    | none => fun _ => 0
  | none => fun _ => 0
def gbz (n : Nat) (x : St) (z : Int) : St := match plc (sS x) z with
  | some j => match (sS x)[j]? with
    | some e => gb n x j e
    | none => x
  | none => x
def bkv (S : List sE) (z : Int) : Int32 := nI (S.length - 1 - (plc S z).getD 0)
def snv (S : List sE) (k : Nat) : Int32 := match S[k]? with
  | some e => nI e.1
  | none => 0
/-- the state behind a late input that was put in already -/
def ltx (n : Nat) (R : List dI) (ev : Nat) (x : St) (z : Int) : St := if z = (sT x : Int) then x else match (sS x)[hsn (sS x) z - 1]? with
  | some e => stps R ev (sT x - e.1) (gb n x (hsn (sS x) z - 1) e)
  | none => x
def ltv (S : List sE) (T : Nat) (z : Int) : Int32 := if z = (T : Int) then nI 0 else match S[hsn S z - 1]? with
  | some e => nI (T - e.1)
  | none => 0
def ctv (n : Nat) (R : List dI) (x : St) (k : Nat) : Int32 := match k with
  | 0 => nI (sT x)
  | 1 => nI n
  | 2 => nI (sS x).length
  | 3 => nI (sL x).length
  | 4 => nI (cq (sL x) (sT x : Int))
  | 5 => nI R.length
  | 6 => sd x
  | _ => nI (nzc (sc x) n)
theorem plc_get {S : List sE} {z : Int} {j : Nat} (h : plc S z = some j) : ∃ e, S[j]? = some e ∧ (e.1 : Int) = z ∧ sgt S z = e.2 := by
  obtain ⟨e, he, hz⟩ := plc_spec h
  refine ⟨e, he, hz, ?_⟩
  unfold sgt
  rw [h]
  show (match S[j]? with | some e => e.2 | none => fun _ => 0) = e.2
  rw [he]
theorem gbz_get {n : Nat} {x : St} {z : Int} {j : Nat} {e : sE} (h : plc (sS x) z = some j) (he : (sS x)[j]? = some e) : gbz n x z = gb n x j e := by
  unfold gbz
  rw [h]
  show (match (sS x)[j]? with | some e => gb n x j e | none => x) = _
  rw [he]
/-- an input of a step, in the class's order -/
theorem rget_srt {L : List rI} (h : srt L) {z : Int} {k : Nat} (hk : k < cq L z) : L[cb L z + k]? = some (rget L z k) := by
  have hm := rc_mid h z
  have hl : k < (fl L z).length := by rw [fl_len]; exact hk
  unfold rget
  rw [List.getElem?_eq_getElem hl]
  show _ = some _
  have e1 : (fl L z)[k]? = some (fl L z)[k] := List.getElem?_eq_getElem hl
  show L[cb L z + k]? = some (fl L z)[k]
  rw [← e1]
  show _ = (L.filter (fun e => decide ((e.1 : Int) = z)))[k]?
  rw [← hm, List.getElem?_drop, List.getElem?_take, if_pos (by rw [cb_cq]; omega)]
theorem rIn_rins {n : Nat} {L : List rI} {e : rI} (h : rIn n L) (hl : L.length < 512) (he : e.1 < 2 ^ 30 ∧ e.2.1 < n ∧ e.2.2.1 ≤ 2 ∧ fF e.2.2.2) : rIn n (rins L e) := by
  refine ⟨by rw [rins_len]; omega, fun y hy => ?_⟩
  rcases List.mem_cons.mp ((rins_perm L e).mem_iff.mp hy) with rfl | hy
  · exact he
  · exact h.2 y hy
theorem Ok_L {n ev : Nat} {R : List dI} {x : St} {L : List rI} (h : Ok n ev R x) (hL : rIn n L) : Ok n ev R (stL x L) := by
  obtain ⟨h1, h2, h3, h4, h5, h6, h7, h8, h9⟩ := h
  exact ⟨h1, h2, h3, h4, h5, hL, h7, h8, h9⟩
