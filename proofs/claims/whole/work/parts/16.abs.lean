/-! what a step, a keeping and a going back do to the state; what stays good -/
/-- the step of the lowest snapshot -/
def s0 : List sE → Nat
  | [] => 0
  | e :: _ => e.1
def kpL (S : List sE) (T : Nat) (c : Nat → UInt32) (L : List rI) : List rI := if plc S (T : Int) = none ∧ S.length = 16 then L.filter (fun e => decide ((s0 (snapT S T c) : Int) ≤ (e.1 : Int))) else L
def kp (x : St) : St := (sc x, sT x, sd x, kpL (sS x) (sT x) (sc x) (sL x), snapT (sS x) (sT x) (sc x))
/-- the cells behind a step's inputs and drifts -/
def stc (R : List dI) (x : St) : Nat → UInt32 := R.foldl drf (((sL x).filter (fun e => decide ((e.1 : Int) = (sT x : Int)))).foldl actC (sc x))
def stp (R : List dI) (ev : Nat) (x : St) : St := if 0 < ev ∧ (sT x + 1) % ev = 0 then kp (stc R x, sT x + 1, sd x + 1, sL x, sS x) else (stc R x, sT x + 1, sd x + 1, sL x, sS x)
def stps (R : List dI) (ev : Nat) : Nat → St → St
  | 0, x => x
  | k + 1, x => stps R ev k (stp R ev x)
/-- back to the snapshot e, which is number j -/
def gb (n : Nat) (x : St) (j : Nat) (e : sE) : St := (va_cpy e.2 (sc x) 0 0 n, e.1, sd x, sL x, (sS x).take (j + 1))
/-- a good state -/
def Ok (n ev : Nat) (R : List dI) (x : St) : Prop := (1 ≤ n ∧ n ≤ 256) ∧ ev ≤ 100 ∧ dIn n R ∧ cfin (sc x) ∧ sT x < 2 ^ 29 ∧ rIn n (sL x) ∧ sGood (sS x) ∧ (∀ e ∈ sS x, cfin e.2 ∧ e.1 ≤ sT x) ∧ 0 < (sS x).length
theorem rIn_filter {n : Nat} {L : List rI} (h : rIn n L) (p : rI → Bool) : rIn n (L.filter p) := ⟨Nat.le_trans (List.length_filter_le _ _) h.1, fun e he => h.2 e (List.mem_filter.mp he).1⟩
theorem srt_filter {L : List rI} (h : srt L) (p : rI → Bool) : srt (L.filter p) := List.Pairwise.filter _ h
theorem kpL_in {n : Nat} {S : List sE} {T : Nat} {c : Nat → UInt32} {L : List rI} (h : rIn n L) : rIn n (kpL S T c L) := by
  unfold kpL
  split
  · exact rIn_filter h _
  · exact h
theorem kpL_srt {S : List sE} {T : Nat} {c : Nat → UInt32} {L : List rI} (h : srt L) : srt (kpL S T c L) := by
  unfold kpL
  split
  · exact srt_filter h _
  · exact h
theorem mem_set_or {α : Type} {S : List α} {j : Nat} {x y : α} (h : y ∈ S.set j x) : y ∈ S ∨ y = x := List.mem_or_eq_of_mem_set h
theorem snapT_mem {S : List sE} {T : Nat} {c : Nat → UInt32} {e : sE} (h : e ∈ snapT S T c) : e ∈ S ∨ e = (T, c) := by
  unfold snapT at h
  split at h
  · exact mem_set_or h
  · rcases List.mem_append.mp h with h | h
    · split at h
      · exact Or.inl (List.mem_of_mem_tail h)
      · exact Or.inl h
    · exact Or.inr (List.mem_singleton.mp h)
theorem snapT_len {S : List sE} {T : Nat} {c : Nat → UInt32} (h : S.length ≤ 16) : (snapT S T c).length ≤ 16 ∧ (0 < S.length → 0 < (snapT S T c).length) := by
  unfold snapT
  split
  · rw [List.length_set]; exact ⟨h, id⟩
  · rw [List.length_append, List.length_singleton]
    split
    · rw [List.length_tail]; omega
    · omega
theorem snapT_srt {S : List sE} {T : Nat} {c : Nat → UInt32} (h : ssrt S) (hT : ∀ e ∈ S, e.1 ≤ T) : ssrt (snapT S T c) := by
  unfold snapT
  split
  · next j hj =>
    obtain ⟨e, he, hz⟩ := plc_spec hj
    have key : ∀ (i : Nat) (y : sE), (S.set j (T, c))[i]? = some y → ∃ z, S[i]? = some z ∧ z.1 = y.1 := by
      intro i y hy
      rw [List.getElem?_set] at hy
      by_cases q : j = i
      · subst q
        rw [if_pos rfl] at hy
        split at hy
        · cases hy
          exact ⟨e, he, by have : (e.1 : Int) = (T : Int) := hz; show e.1 = T; omega⟩
        · cases hy
      · rw [if_neg q] at hy
        exact ⟨y, hy, rfl⟩
    unfold ssrt
    rw [List.pairwise_iff_getElem]
    intro i k hi hk hik
    obtain ⟨z1, a1, b1⟩ := key i _ (List.getElem?_eq_getElem hi)
    obtain ⟨z2, a2, b2⟩ := key k _ (List.getElem?_eq_getElem hk)
    obtain ⟨l1, e1⟩ := List.getElem?_eq_some_iff.mp a1
    obtain ⟨l2, e2⟩ := List.getElem?_eq_some_iff.mp a2
    have := (List.pairwise_iff_getElem.mp h) i k l1 l2 hik
    rw [e1, e2, b1, b2] at this
    exact this
  · next hn =>
    have hno := plc_no hn
    have h1 : ssrt (if S.length = 16 then S.tail else S) := by
      split
      · exact List.Pairwise.tail h
      · exact h
    have h2 : ∀ e ∈ (if S.length = 16 then S.tail else S), e ∈ S := by
      intro e he
      split at he
      · exact List.mem_of_mem_tail he
      · exact he
    unfold ssrt
    rw [List.pairwise_append]
    refine ⟨h1, List.pairwise_singleton _ _, fun a ha b hb => ?_⟩
    rw [List.mem_singleton.mp hb]
    have q1 := hT a (h2 a ha)
    have q2 := hno a (h2 a ha)
    show a.1 < T
    omega
theorem kp_ok {n ev : Nat} {R : List dI} {x : St} (h : Ok n ev R x) : Ok n ev R (kp x) := by
  obtain ⟨h1, h2, h3, h4, h5, h6, h7, h8, h9⟩ := h
  have hl := snapT_len (T := sT x) (c := sc x) h7.2.1
  have hm : ∀ e ∈ snapT (sS x) (sT x) (sc x), e.1 < 2 ^ 30 ∧ cfin e.2 ∧ e.1 ≤ sT x := fun e he => by
    rcases snapT_mem he with q | rfl
    · exact ⟨h7.2.2 e q, h8 e q⟩
    · exact ⟨by show sT x < 2 ^ 30; omega, h4, Nat.le_refl _⟩
  exact ⟨h1, h2, h3, h4, h5, kpL_in h6, ⟨snapT_srt h7.1 (fun e he => (h8 e he).2), hl.1, fun e he => (hm e he).1⟩, fun e he => (hm e he).2, hl.2 h9⟩
theorem stc_fin {n ev : Nat} {R : List dI} {x : St} (h : Ok n ev R x) : cfin (stc R x) := by
  obtain ⟨-, -, h3, h4, -, h6, -⟩ := h
  exact drfs_fin (fun d hd => (h3.2 d hd).2.2) (acts_fin (fun e he => (h6.2 e (List.mem_filter.mp he).1).2.2.2) h4)
theorem stp1_ok {n ev : Nat} {R : List dI} {x : St} (h : Ok n ev R x) (hT : sT x + 1 < 2 ^ 29) : Ok n ev R (stc R x, sT x + 1, sd x + 1, sL x, sS x) := by
  have hf := stc_fin h
  obtain ⟨h1, h2, h3, h4, h5, h6, h7, h8, h9⟩ := h
  exact ⟨h1, h2, h3, hf, hT, h6, h7, fun e he => ⟨(h8 e he).1, Nat.le_succ_of_le (h8 e he).2⟩, h9⟩
theorem stp_ok {n ev : Nat} {R : List dI} {x : St} (h : Ok n ev R x) (hT : sT x + 1 < 2 ^ 29) : Ok n ev R (stp R ev x) := by
  unfold stp
  split
  · exact kp_ok (stp1_ok h hT)
  · exact stp1_ok h hT
theorem stp_T (R : List dI) (ev : Nat) (x : St) : sT (stp R ev x) = sT x + 1 := by
  unfold stp
  split <;> rfl
theorem stp_srt {R : List dI} {ev : Nat} {x : St} (h : srt (sL x)) : srt (sL (stp R ev x)) := by
  unfold stp
  split
  · exact kpL_srt h
  · exact h
theorem stps_ok {n ev : Nat} {R : List dI} : ∀ (k : Nat) {x : St}, Ok n ev R x → sT x + k < 2 ^ 29 → Ok n ev R (stps R ev k x)
  | 0, _, h, _ => h
  | k + 1, x, h, hT => stps_ok k (stp_ok h (by omega)) (by rw [stp_T]; omega)
theorem stps_T (R : List dI) (ev : Nat) : ∀ (k : Nat) (x : St), sT (stps R ev k x) = sT x + k
  | 0, x => rfl
  | k + 1, x => by
    show sT (stps R ev k (stp R ev x)) = _
    rw [stps_T R ev k, stp_T]
    omega
theorem stps_srt {R : List dI} {ev : Nat} : ∀ (k : Nat) {x : St}, srt (sL x) → srt (sL (stps R ev k x))
  | 0, _, h => h
  | k + 1, _, h => stps_srt k (stp_srt h)
theorem cfin_cpy {r c : Nat → UInt32} {n : Nat} (hr : cfin r) (hc : cfin c) : cfin (va_cpy r c 0 0 n) := by
  intro i
  unfold va_cpy
  split
  · exact hr _
  · exact hc _
theorem gb_ok {n ev : Nat} {R : List dI} {x : St} {j : Nat} {e : sE} (h : Ok n ev R x) (hj : (sS x)[j]? = some e) : Ok n ev R (gb n x j e) := by
  obtain ⟨h1, h2, h3, h4, h5, h6, h7, h8, h9⟩ := h
  have hm := h8 e (List.mem_of_getElem? hj)
  have hlt : j < (sS x).length := (List.getElem?_eq_some_iff.mp hj).1
  have hlen : ((sS x).take (j + 1)).length = j + 1 := by rw [List.length_take]; omega
  refine ⟨h1, h2, h3, cfin_cpy hm.1 h4, by show e.1 < 2 ^ 29; omega, h6, ⟨List.Pairwise.sublist (List.take_sublist _ _) h7.1, by show ((sS x).take (j + 1)).length ≤ 16; have := h7.2.1; omega, fun y hy => h7.2.2 y (List.mem_of_mem_take hy)⟩, fun y hy => ⟨(h8 y (List.mem_of_mem_take hy)).1, ?_⟩, by show 0 < ((sS x).take (j + 1)).length; omega⟩
  obtain ⟨i, hi⟩ := List.getElem?_of_mem hy
  have hi2 : (sS x)[i]? = some y ∧ i < j + 1 := by
    have hi3 : ((sS x).take (j + 1))[i]? = some y := hi
    rw [List.getElem?_take] at hi3
    split at hi3
    · exact ⟨hi3, by assumption⟩
    · cases hi3
  have q1 := hsn_iff h7.1 (b := (e.1 : Int)) hj
  have q2 := hsn_iff h7.1 (b := (e.1 : Int)) hi2.1
  show y.1 ≤ e.1
  omega
