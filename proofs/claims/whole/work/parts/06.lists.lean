/-! the record and the snapshots, as lists -/
/-- an input of the record: its step, cell, way, number -/
abbrev rI : Type := Nat × Nat × Nat × UInt32
def recOk (L : List rI) (f1 f2 f3 : Nat → Int32) (f4 : Nat → UInt32) : Prop := ∀ (j : Nat) (e : rI), L[j]? = some e → f1 j = nI e.1 ∧ f2 j = nI e.2.1 ∧ f3 j = nI e.2.2.1 ∧ f4 j = e.2.2.2
/-- how many are of steps below b -/
def cb (L : List rI) (b : Int) : Nat := L.countP (fun e => decide ((e.1 : Int) < b))
/-- how many are of step z -/
def cq (L : List rI) (z : Int) : Nat := L.countP (fun e => decide ((e.1 : Int) = z))
def srt (L : List rI) : Prop := L.Pairwise (fun a b => a.1 ≤ b.1)
theorem cb_cons (x : rI) (t : List rI) (b : Int) : cb (x :: t) b = cb t b + if (x.1 : Int) < b then 1 else 0 := by
  unfold cb
  rw [List.countP_cons]
  simp
theorem cb_0 {L : List rI} {b : Int} (h : ∀ e ∈ L, b ≤ (e.1 : Int)) : cb L b = 0 := by
  unfold cb
  rw [List.countP_eq_zero]
  intro e he
  have := h e he
  simp
  omega
theorem cb_le (L : List rI) (b : Int) : cb L b ≤ L.length := List.countP_le_length
theorem cq_le (L : List rI) (b : Int) : cq L b ≤ L.length := List.countP_le_length
theorem cb_iff {L : List rI} (h : srt L) {b : Int} : ∀ {j : Nat} {e : rI}, L[j]? = some e → ((e.1 : Int) < b ↔ j < cb L b) := by
  induction L with
  | nil => intro j e hj; simp at hj
  | cons x t ih =>
    intro j e hj
    unfold srt at h
    rw [List.pairwise_cons] at h
    rw [cb_cons]
    have h0 : ¬ (x.1 : Int) < b → cb t b = 0 := fun hx => cb_0 fun e he => by have := h.1 e he; omega
    cases j with
    | zero =>
      rw [List.getElem?_cons_zero] at hj
      cases hj
      by_cases hx : (x.1 : Int) < b
      · simp [hx]
      · rw [h0 hx]; simp [hx]
    | succ j =>
      rw [List.getElem?_cons_succ] at hj
      have hi := ih h.2 hj
      by_cases hx : (x.1 : Int) < b
      · simp only [hx, if_true]
        omega
      · have := h0 hx
        simp only [hx, if_false]
        omega
theorem rc_split {L : List rI} (h : srt L) (b : Int) : L = L.filter (fun e => decide ((e.1 : Int) < b)) ++ L.filter (fun e => decide (b ≤ (e.1 : Int))) := by
  induction L with
  | nil => rfl
  | cons x t ih =>
    unfold srt at h
    rw [List.pairwise_cons] at h
    by_cases hx : (x.1 : Int) < b
    · have hx2 : ¬ b ≤ (x.1 : Int) := by omega
      rw [List.filter_cons_of_pos (by simpa using hx), List.filter_cons_of_neg (by simpa using hx2), List.cons_append]
      exact congrArg (List.cons x) (ih h.2)
    · have hx2 : b ≤ (x.1 : Int) := by omega
      have h1 : t.filter (fun e => decide ((e.1 : Int) < b)) = [] := by
        rw [List.filter_eq_nil_iff]
        intro e he
        have := h.1 e he
        simp; omega
      have h2 : t.filter (fun e => decide (b ≤ (e.1 : Int))) = t := by
        rw [List.filter_eq_self]
        intro e he
        have := h.1 e he
        simp; omega
      rw [List.filter_cons_of_neg (by simpa using hx), List.filter_cons_of_pos (by simpa using hx2), h1, h2]
      rfl
theorem cb_len (L : List rI) (b : Int) : (L.filter (fun e => decide ((e.1 : Int) < b))).length = cb L b := (List.countP_eq_length_filter).symm
theorem rc_take {L : List rI} (h : srt L) (b : Int) : L.take (cb L b) = L.filter (fun e => decide ((e.1 : Int) < b)) := by
  have e := congrArg (List.take (L.filter (fun e => decide ((e.1 : Int) < b))).length) (rc_split h b)
  rw [List.take_left, cb_len] at e
  exact e
theorem rc_drop {L : List rI} (h : srt L) (b : Int) : L.drop (cb L b) = L.filter (fun e => decide (b ≤ (e.1 : Int))) := by
  have e := congrArg (List.drop (L.filter (fun e => decide ((e.1 : Int) < b))).length) (rc_split h b)
  rw [List.drop_left, cb_len] at e
  exact e
theorem cb_mono (L : List rI) {a b : Int} (h : a ≤ b) : cb L a ≤ cb L b := by
  unfold cb
  apply List.countP_mono_left
  intro e _ he
  simp at he ⊢
  omega
theorem cq_cons (x : rI) (t : List rI) (b : Int) : cq (x :: t) b = cq t b + if (x.1 : Int) = b then 1 else 0 := by
  unfold cq
  rw [List.countP_cons]
  simp
theorem cb_cq (L : List rI) (z : Int) : cb L (z + 1) = cb L z + cq L z := by
  induction L with
  | nil => rfl
  | cons x t ih =>
    rw [cb_cons, cb_cons, cq_cons, ih]
    by_cases h1 : (x.1 : Int) < z
    · rw [if_pos h1, if_pos (by omega), if_neg (by omega)]; omega
    · by_cases h3 : (x.1 : Int) = z
      · rw [if_neg h1, if_pos (by omega), if_pos h3]; omega
      · rw [if_neg h1, if_neg (by omega), if_neg h3]; omega
/-- the part of a sorted record that is of step z -/
theorem rc_mid {L : List rI} (h : srt L) (z : Int) : (L.take (cb L (z + 1))).drop (cb L z) = L.filter (fun e => decide ((e.1 : Int) = z)) := by
  rw [rc_take h]
  have hs : srt (L.filter (fun e => decide ((e.1 : Int) < z + 1))) := List.Pairwise.filter _ h
  have he : cb L z = cb (L.filter (fun e => decide ((e.1 : Int) < z + 1))) z := by
    unfold cb
    rw [List.countP_filter]
    apply List.countP_congr
    intro e _
    simp
    omega
  rw [he, rc_drop hs, List.filter_filter]
  apply List.filter_congr
  intro e _
  rw [← Bool.decide_and, decide_eq_decide]
  omega
/-- the record with an input more, behind those of its step -/
def rins (L : List rI) (e : rI) : List rI := L.take (cb L (e.1 + 1)) ++ e :: L.drop (cb L (e.1 + 1))
theorem rins_len (L : List rI) (e : rI) : (rins L e).length = L.length + 1 := by
  unfold rins
  rw [List.length_append, List.length_cons, List.length_take, List.length_drop]
  have := cb_le L (e.1 + 1)
  omega
theorem rins_perm (L : List rI) (e : rI) : (rins L e).Perm (e :: L) := by
  unfold rins
  have h : (L.take (cb L (e.1 + 1)) ++ e :: L.drop (cb L (e.1 + 1))).Perm (e :: (L.take (cb L (e.1 + 1)) ++ L.drop (cb L (e.1 + 1)))) := List.perm_middle
  rw [List.take_append_drop] at h
  exact h
theorem rins_srt {L : List rI} (h : srt L) (e : rI) : srt (rins L e) := by
  unfold rins
  rw [rc_take h, rc_drop h]
  unfold srt
  rw [List.pairwise_append, List.pairwise_cons]
  refine ⟨List.Pairwise.filter _ h, ⟨fun a ha => ?_, List.Pairwise.filter _ h⟩, fun a ha b hb => ?_⟩
  · have := (List.mem_filter.mp ha).2
    simp at this
    omega
  · have ha2 := (List.mem_filter.mp ha).2
    simp at ha2
    rcases List.mem_cons.mp hb with rfl | hb
    · omega
    · have hb2 := (List.mem_filter.mp hb).2
      simp at hb2
      omega
theorem rins_filter {L : List rI} (h : srt L) (e : rI) (z : Int) : (rins L e).filter (fun x => decide ((x.1 : Int) = z)) = L.filter (fun x => decide ((x.1 : Int) = z)) ++ (if (e.1 : Int) = z then [e] else []) := by
  have e1 := rc_split h ((e.1 : Int) + 1)
  unfold rins
  rw [rc_take h, rc_drop h, List.filter_append, List.filter_cons]
  conv => rhs; rw [e1]
  rw [List.filter_append]
  by_cases hz : (e.1 : Int) = z
  · have h2 : (L.filter (fun x => decide ((e.1 : Int) + 1 ≤ (x.1 : Int)))).filter (fun x => decide ((x.1 : Int) = z)) = [] := by
      rw [List.filter_eq_nil_iff]
      intro x hx
      have := (List.mem_filter.mp hx).2
      simp at this ⊢
      omega
    rw [h2]
    simp [hz]
  · simp [hz]
theorem cb_get {L : List rI} (h : srt L) (b : Int) {j : Nat} {e : rI} (hj : L[j]? = some e) (hb : b ≤ (e.1 : Int)) : cb L b ≤ j := by
  have := (cb_iff h (b := b) hj)
  omega
/-- a snapshot: its step, its cells -/
abbrev sE : Type := Nat × (Nat → UInt32)
def ssrt (S : List sE) : Prop := S.Pairwise (fun a b => a.1 < b.1)
/-- how many are of steps up to b -/
def hsn (S : List sE) (b : Int) : Nat := S.countP (fun e => decide ((e.1 : Int) ≤ b))
/-- the place of the snapshot of step z -/
def plc (S : List sE) (z : Int) : Option Nat := S.findIdx? (fun e => decide ((e.1 : Int) = z))
def opI : Option Nat → Int32
  | some j => nI j
  | none => -1
theorem hsn_le (S : List sE) (b : Int) : hsn S b ≤ S.length := List.countP_le_length
theorem hsn_cons (x : sE) (t : List sE) (b : Int) : hsn (x :: t) b = hsn t b + if (x.1 : Int) ≤ b then 1 else 0 := by
  unfold hsn
  rw [List.countP_cons]
  simp
theorem hsn_iff {S : List sE} (h : ssrt S) {b : Int} : ∀ {j : Nat} {e : sE}, S[j]? = some e → ((e.1 : Int) ≤ b ↔ j < hsn S b) := by
  induction S with
  | nil => intro j e hj; simp at hj
  | cons x t ih =>
    intro j e hj
    unfold ssrt at h
    rw [List.pairwise_cons] at h
    rw [hsn_cons]
    have h0 : ¬ (x.1 : Int) ≤ b → hsn t b = 0 := fun hx => by
      unfold hsn
      rw [List.countP_eq_zero]
      intro e he
      have := h.1 e he
      simp
      omega
    cases j with
    | zero =>
      rw [List.getElem?_cons_zero] at hj
      cases hj
      by_cases hx : (x.1 : Int) ≤ b
      · simp [hx]
      · rw [h0 hx]; simp [hx]
    | succ j =>
      rw [List.getElem?_cons_succ] at hj
      have hi := ih h.2 hj
      by_cases hx : (x.1 : Int) ≤ b
      · simp only [hx, if_true]
        omega
      · have := h0 hx
        simp only [hx, if_false]
        omega
theorem ssrt_inj {S : List sE} (h : ssrt S) {i j : Nat} {x y : sE} (hi : S[i]? = some x) (hj : S[j]? = some y) (e : x.1 = y.1) : i = j := by
  have h1 := hsn_iff h (b := (x.1 : Int)) hi
  have h2 := hsn_iff h (b := (x.1 : Int)) hj
  have h3 := hsn_iff h (b := (x.1 : Int) - 1) hi
  have h4 := hsn_iff h (b := (x.1 : Int) - 1) hj
  have key : ∀ {i j : Nat} {x y : sE}, S[i]? = some x → S[j]? = some y → i < j → x.1 < y.1 := by
    intro i j x y hi hj hij
    obtain ⟨li, ei⟩ := List.getElem?_eq_some_iff.mp hi
    obtain ⟨lj, ej⟩ := List.getElem?_eq_some_iff.mp hj
    have := (List.pairwise_iff_getElem.mp h) i j li lj hij
    rw [ei, ej] at this
    exact this
  rcases Nat.lt_trichotomy i j with q | q | q
  · have := key hi hj q; omega
  · exact q
  · have := key hj hi q; omega
theorem plc_some {S : List sE} (h : ssrt S) {z : Int} {j : Nat} {e : sE} (hj : S[j]? = some e) (he : (e.1 : Int) = z) : plc S z = some j := by
  obtain ⟨lj, ej⟩ := List.getElem?_eq_some_iff.mp hj
  unfold plc
  rw [List.findIdx?_eq_some_iff_getElem]
  refine ⟨lj, by rw [ej]; simpa using he, fun i hi => ?_⟩
  have li : i < S.length := Nat.lt_trans hi lj
  have := ssrt_inj h (List.getElem?_eq_getElem li) hj
  simp
  intro e2
  have := this (by omega)
  omega
theorem plc_none {S : List sE} {z : Int} (h : ∀ e ∈ S, (e.1 : Int) ≠ z) : plc S z = none := by
  unfold plc
  rw [List.findIdx?_eq_none_iff]
  intro e he
  simpa using h e he
theorem plc_spec {S : List sE} {z : Int} {j : Nat} (h : plc S z = some j) : ∃ e, S[j]? = some e ∧ (e.1 : Int) = z := by
  unfold plc at h
  rw [List.findIdx?_eq_some_iff_getElem] at h
  obtain ⟨lj, h1, -⟩ := h
  exact ⟨S[j], List.getElem?_eq_getElem lj, by simpa using h1⟩
theorem plc_no {S : List sE} {z : Int} (h : plc S z = none) : ∀ e ∈ S, (e.1 : Int) ≠ z := by
  unfold plc at h
  rw [List.findIdx?_eq_none_iff] at h
  intro e he
  simpa using h e he
