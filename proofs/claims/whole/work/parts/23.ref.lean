/-! the reference: its world, and what its loops come to -/
def ksOk (n : Nat) (S : List sE) (k1 : Nat → Int32) (kc : Nat → UInt32) : Prop := ∀ (j : Nat) (e : sE), S[j]? = some e → k1 j = nI e.1 ∧ ∀ i, i < n → kc (256 * j + i) = e.2 i
abbrev mW (cI cF : ClassId) (u : Nat → Nat) (n ev : Nat) (th : Int32) (T : Nat) (d : Int32) (c : Nat → UInt32) (nR : Nat) (r1 r2 : Nat → Int32) (r3 : Nat → UInt32) (nL : Nat) (f1 f2 f3 : Nat → Int32) (f4 : Nat → UInt32) (nS : Nat) (k1 : Nat → Int32) (kc : Nat → UInt32) : va_W :=
  [((u 0), .inr (4, [.int th, .int (nI n), .ref (u 1), .int (nI T), .int (nI ev), .int d, .int (nI nR), .ref (u 2), .ref (u 3), .ref (u 4), .int (nI nL), .ref (u 5), .ref (u 6), .ref (u 7), .ref (u 8), .int (nI nS), .ref (u 9), .ref (u 10)])),
   ((u 1), .inl (cF, 256, .inr (.inr (.inl c)))), ((u 2), .inl (cI, 64, .inl r1)), ((u 3), .inl (cI, 64, .inl r2)), ((u 4), .inl (cF, 64, .inr (.inr (.inl r3)))),
   ((u 5), .inl (cI, 512, .inl f1)), ((u 6), .inl (cI, 512, .inl f2)), ((u 7), .inl (cI, 512, .inl f3)), ((u 8), .inl (cF, 512, .inr (.inr (.inl f4)))), ((u 9), .inl (cI, 16, .inl k1)), ((u 10), .inl (cF, 4096, .inr (.inr (.inl kc))))]
def WM (cI cF : ClassId) (u : Nat → Nat) (n ev : Nat) (th : Int32) (R : List dI) (x : St) (w : va_W) : Prop := ∃ r1 r2 r3 f1 f2 f3 f4 k1 kc, drOk R r1 r2 r3 ∧ recOk (sL x) f1 f2 f3 f4 ∧ ksOk n (sS x) k1 kc ∧ w = mW cI cF u n ev th (sT x) (sd x) (sc x) R.length r1 r2 r3 (sL x).length f1 f2 f3 f4 (sS x).length k1 kc
theorem WM.ad2 {cI cF : ClassId} {u : Nat → Nat} {n n' ev ev' : Nat} {th th' : Int32} {R R' : List dI} {x x' : St} {w w' : va_W} (h : WM cI cF u n ev th R x w) (h' : WM cI cF u n' ev' th' R' x' w') : w.map Prod.fst = w'.map Prod.fst := by
  obtain ⟨r1, r2, r3, f1, f2, f3, f4, k1, kc, -, -, -, rfl⟩ := h
  obtain ⟨r1, r2, r3, f1, f2, f3, f4, k1, kc, -, -, -, rfl⟩ := h'
  rfl
/-- a boolean -/
def bz (P : Prop) (b : Int32) : Prop := (P ∧ b = nI 1) ∨ (¬ P ∧ b = nI 0)
theorem bz_iff {P Q : Prop} {b : Int32} (h : P ↔ Q) (hb : bz P b) : bz Q b := by
  rw [propext h] at hb
  exact hb
theorem bz_0 {P : Prop} {b : Int32} (h : bz P b) (h0 : b = 0) : ¬ P := by
  rcases h with ⟨-, h⟩ | ⟨h, -⟩
  · rw [h0] at h; exact absurd h (by decide)
  · exact h
theorem bz_1 {P : Prop} {b : Int32} (h : bz P b) (h0 : ¬ b = 0) : P := by
  rcases h with ⟨h, -⟩ | ⟨-, h⟩
  · exact h
  · exact absurd (h.trans nI_0) h0
theorem cdR_imp {P1 P2 P3 Q3 : Prop} {k : Nat} (h : P1 → P2 → (P3 ↔ Q3)) (hc : cdR P1 P2 P3 k) : cdR P1 P2 Q3 k := by
  rcases hc with ⟨a, b, c, e⟩ | ⟨a, e⟩ | ⟨a, b, e⟩ | ⟨a, b, c, e⟩
  · exact Or.inl ⟨a, b, (h a b).mp c, e⟩
  · exact Or.inr (Or.inl ⟨a, e⟩)
  · exact Or.inr (Or.inr (Or.inl ⟨a, b, e⟩))
  · exact Or.inr (Or.inr (Or.inr ⟨a, b, fun q => c ((h a b).mpr q), e⟩))
theorem cq_app (L M : List rI) (z : Int) : cq (L ++ M) z = cq L z + cq M z := List.countP_append
theorem cq_1 (e : rI) (z : Int) : cq [e] z = if (e.1 : Int) = z then 1 else 0 := by
  rw [cq_cons]
  show 0 + _ = _
  rw [Nat.zero_add]
theorem take_s {α : Type} {L : List α} {i : Nat} {e : α} (h : L[i]? = some e) : L.take (i + 1) = L.take i ++ [e] := by
  rw [List.take_add_one, h]
  rfl
theorem fl_app (L M : List rI) (z : Int) : fl (L ++ M) z = fl L z ++ fl M z := List.filter_append L M
theorem fl_1 (e : rI) (z : Int) : fl [e] z = if (e.1 : Int) = z then [e] else [] := by
  show List.filter _ [e] = _
  by_cases h : (e.1 : Int) = z
  · rw [if_pos h, List.filter_cons_of_pos (by simpa using h)]; rfl
  · rw [if_neg h, List.filter_cons_of_neg (by simpa using h)]; rfl
theorem recOk_app {L : List rI} {f1 f2 f3 : Nat → Int32} {f4 : Nat → UInt32} (h : recOk L f1 f2 f3 f4) (e : rI) : recOk (L ++ [e]) (upd f1 L.length (nI e.1)) (upd f2 L.length (nI e.2.1)) (upd f3 L.length (nI e.2.2.1)) (vf_upd f4 L.length e.2.2.2) := by
  intro j x hj
  by_cases q : j < L.length
  · rw [List.getElem?_append_left q] at hj
    have := h j x hj
    have hne : ¬ j = L.length := by omega
    simp only [upd, vf_upd, hne, if_false]
    exact this
  · rw [List.getElem?_append_right (by omega)] at hj
    have hl : j - L.length < 1 := (List.getElem?_eq_some_iff.mp hj).1
    have e : j = L.length := by omega
    subst e
    rw [Nat.sub_self] at hj
    cases hj
    simp [upd, vf_upd]
/-- the arrays hold L from place i on -/
def recFr (L : List rI) (i : Nat) (f1 f2 f3 : Nat → Int32) (f4 : Nat → UInt32) : Prop := ∀ (j : Nat) (e : rI), i ≤ j → L[j]? = some e → f1 j = nI e.1 ∧ f2 j = nI e.2.1 ∧ f3 j = nI e.2.2.1 ∧ f4 j = e.2.2.2
theorem recFr_s {L : List rI} {i : Nat} {f1 f2 f3 : Nat → Int32} {f4 : Nat → UInt32} (h : recFr L i f1 f2 f3 f4) : recFr L (i + 1) f1 f2 f3 f4 := fun j e hj he => h j e (by omega) he
theorem recFr_u {L : List rI} {i k : Nat} {f1 f2 f3 : Nat → Int32} {f4 : Nat → UInt32} {a b c : Int32} {d : UInt32} (hk : k ≤ i) (h : recFr L i f1 f2 f3 f4) : recFr L (i + 1) (upd f1 k a) (upd f2 k b) (upd f3 k c) (vf_upd f4 k d) := by
  intro j e hj he
  have hne : ¬ j = k := by omega
  simp only [upd, vf_upd, hne, if_false]
  exact h j e (by omega) he
theorem cpy_s {α : Type} (f g : Nat → α) (sp dp i : Nat) : (fun q => if q = dp + i then f (sp + i) else va_cpy f g sp dp i q) = va_cpy f g sp dp (i + 1) := by
  funext q
  unfold va_cpy
  by_cases h : q = dp + i
  · subst h
    rw [if_pos rfl, if_pos (by omega), Nat.add_sub_cancel_left]
  · rw [if_neg h]
    by_cases h2 : dp ≤ q ∧ q < dp + i
    · rw [if_pos h2, if_pos (by omega)]
    · rw [if_neg h2, if_neg (by omega)]
theorem cpy_0 {α : Type} (f g : Nat → α) (sp dp : Nat) : va_cpy f g sp dp 0 = g := by
  funext q
  unfold va_cpy
  rw [if_neg (by omega)]
theorem cpy_at {α : Type} (f g : Nat → α) {sp dp k q : Nat} (h : q < dp ∨ dp + k ≤ q) : va_cpy f g sp dp k q = g q := by
  unfold va_cpy
  rw [if_neg (by omega)]
theorem cpy_in {α : Type} (f g : Nat → α) {sp dp k i : Nat} (h : i < k) : va_cpy f g sp dp k (dp + i) = f (sp + i) := by
  unfold va_cpy
  rw [if_pos (by omega), Nat.add_sub_cancel_left]
/-- the snapshots' rows while they are moved down: k are moved -/
def ksMv (n : Nat) (S : List sE) (k : Nat) (k1 : Nat → Int32) (kc : Nat → UInt32) : Prop := (∀ (j : Nat) (e : sE), j < k → S[j + 1]? = some e → k1 j = nI e.1 ∧ ∀ i, i < n → kc (256 * j + i) = e.2 i) ∧ ∀ (j : Nat) (e : sE), k ≤ j → S[j]? = some e → k1 j = nI e.1 ∧ ∀ i, i < n → kc (256 * j + i) = e.2 i
theorem ksMv_s {n : Nat} {S : List sE} {k : Nat} {k1 : Nat → Int32} {kc : Nat → UInt32} {e : sE} (hn : n ≤ 256) (h : ksMv n S k k1 kc) (he : S[k + 1]? = some e) : ksMv n S (k + 1) (upd k1 k (k1 (k + 1))) (va_cpy kc kc (256 * k + 256) (256 * k) n) := by
  refine ⟨fun j e' hj he' => ?_, fun j e' hj he' => ?_⟩
  · by_cases q : j = k
    · subst q
      rw [he] at he'
      cases he'
      have := h.2 (j + 1) e (by omega) he
      refine ⟨by simp only [upd, if_true]; exact this.1, fun i hi => ?_⟩
      rw [cpy_in _ _ hi]
      rw [show 256 * j + 256 + i = 256 * (j + 1) + i by omega]
      exact this.2 i hi
    · have := h.1 j e' (by omega) he'
      refine ⟨by simp only [upd, q, if_false]; exact this.1, fun i hi => ?_⟩
      rw [cpy_at _ _ (Or.inl (by omega))]
      exact this.2 i hi
  · have hne : ¬ j = k := by omega
    have := h.2 j e' (by omega) he'
    refine ⟨by simp only [upd, hne, if_false]; exact this.1, fun i hi => ?_⟩
    rw [cpy_at _ _ (Or.inr (by omega))]
    exact this.2 i hi
theorem ksOk_set {n : Nat} {S S' : List sE} {k1 : Nat → Int32} {kc : Nat → UInt32} {T a : Nat} {c : Nat → UInt32} (hn : n ≤ 256) (h : ksOk n S k1 kc) (hs : ∀ (i : Nat) (e : sE), S'[i]? = some e → (i = a ∧ e = (T, c)) ∨ (i ≠ a ∧ S[i]? = some e)) : ksOk n S' (upd k1 a (nI T)) (va_cpy c kc 0 (256 * a) n) := by
  intro j e hj
  rcases hs j e hj with ⟨rfl, rfl⟩ | ⟨hne, he⟩
  · refine ⟨by simp [upd], fun i hi => ?_⟩
    rw [cpy_in _ _ hi, Nat.zero_add]
  · have := h j e he
    refine ⟨by simp only [upd, hne, if_false]; exact this.1, fun i hi => ?_⟩
    rw [cpy_at _ _ (by omega)]
    exact this.2 i hi
theorem snap_set {S : List sE} {T j : Nat} {c : Nat → UInt32} (hj : j < S.length) : ∀ (i : Nat) (e : sE), (S.set j (T, c))[i]? = some e → (i = j ∧ e = (T, c)) ∨ (i ≠ j ∧ S[i]? = some e) := by
  intro i e hi
  rw [List.getElem?_set] at hi
  by_cases q : j = i
  · subst q
    rw [if_pos rfl, if_pos hj] at hi
    exact Or.inl ⟨rfl, (Option.some.inj hi).symm⟩
  · rw [if_neg q] at hi
    exact Or.inr ⟨Ne.symm q, hi⟩
theorem snap_app {S : List sE} {T : Nat} {c : Nat → UInt32} : ∀ (i : Nat) (e : sE), (S ++ [(T, c)])[i]? = some e → (i = S.length ∧ e = (T, c)) ∨ (i ≠ S.length ∧ S[i]? = some e) := by
  intro i e hi
  by_cases q : i < S.length
  · rw [List.getElem?_append_left q] at hi
    exact Or.inr ⟨by omega, hi⟩
  · rw [List.getElem?_append_right (by omega)] at hi
    have hl9 : i - S.length < 1 := (List.getElem?_eq_some_iff.mp hi).1
    rw [show i - S.length = 0 by omega] at hi
    exact Or.inl ⟨by omega, (Option.some.inj hi).symm⟩
/-- the k-th input of a step, in the reference's order -/
theorem rget_at {L : List rI} {z : Int} {i : Nat} {e : rI} (h : L[i]? = some e) (hz : (e.1 : Int) = z) : e = rget L z (cq (L.take i) z) := by
  have hl : i < L.length := (List.getElem?_eq_some_iff.mp h).1
  have e1 : L = L.take i ++ (e :: L.drop (i + 1)) := by
    have := List.take_append_drop i L
    rw [List.drop_eq_getElem_cons hl] at this
    rw [(List.getElem?_eq_some_iff.mp h).2] at this
    exact this.symm
  have e2 : fl L z = fl (L.take i) z ++ (e :: fl (L.drop (i + 1)) z) := by
    have e3 : fl L z = fl (L.take i ++ (e :: L.drop (i + 1))) z := congrArg (fun M => fl M z) e1
    rw [e3, fl_app]
    congr 1
    exact List.filter_cons_of_pos (by simpa using hz)
  have e4 : (fl L z)[cq (L.take i) z]? = some e := by
    rw [e2, ← fl_len, List.getElem?_append_right (Nat.le_refl _), Nat.sub_self]
    rfl
  unfold rget
  rw [e4]
  rfl
theorem il_at {u b : Int32} {k : Nat} (h1 : k ≤ 256) : (u.toInt64 + b.toInt64 * (nI k).toInt64).toInt = u.toInt + (k : Int) * b.toInt := by
  have e1 : (nI k).toInt64.toInt = (k : Int) := by rw [il_toInt, nI_toInt (by omega)]
  have hb := iz_max b
  have hu := iz_max u
  have hm1 : (k : Int) * b.toInt ≤ (k : Int) * 2147483648 := Int.mul_le_mul_of_nonneg_left (by omega) (by omega)
  have hm2 : (k : Int) * (-2147483648) ≤ (k : Int) * b.toInt := Int.mul_le_mul_of_nonneg_left (by omega) (by omega)
  have f2 : (b.toInt64 * (nI k).toInt64).toInt = (k : Int) * b.toInt := by
    rw [Int64.toInt_mul, e1, il_toInt, Int.mul_comm]
    exact Int.bmod_eq_of_le (by omega) (by omega)
  rw [Int64.toInt_add, il_toInt, f2]
  exact Int.bmod_eq_of_le (by omega) (by omega)
