/-! StateKeeper.held; StateKeeper$InputRecord -/
abbrev recW (cI cF : ClassId) (o : Nat → Nat) (k : Nat) (f1 f2 f3 : Nat → Int32) (f4 : Nat → UInt32) : va_W := [((o 6), .inr (1, [.ref (o 7), .ref (o 8), .ref (o 9), .ref (o 10), .int (nI k)])), ((o 7), .inl (cI, 512, .inl f1)), ((o 8), .inl (cI, 512, .inl f2)), ((o 9), .inl (cI, 512, .inl f3)), ((o 10), .inl (cF, 512, .inr (.inr (.inl f4))))]
/-- what is in the record is good -/
def rIn (n : Nat) (L : List rI) : Prop := L.length ≤ 512 ∧ ∀ e ∈ L, e.1 < 2 ^ 30 ∧ e.2.1 < n ∧ e.2.2.1 ≤ 2 ∧ fF e.2.2.2
def WR (cI cF : ClassId) (o : Nat → Nat) (L : List rI) (w : va_W) : Prop := ∃ f1 f2 f3 f4, recOk L f1 f2 f3 f4 ∧ w = recW cI cF o L.length f1 f2 f3 f4
theorem WR.ad {cI cF : ClassId} {o : Nat → Nat} {L : List rI} {w : va_W} (h : WR cI cF o L w) : w.map Prod.fst = [o 6, o 7, o 8, o 9, o 10] := by
  obtain ⟨f1, f2, f3, f4, -, rfl⟩ := h
  rfl
theorem cu_lo {α : Type} (f : Nat → α) {p m j : Nat} (x : α) (h : j < p) : (if j = p then x else va_cpy f f p (p + 1) m j) = f j := by
  rw [if_neg (by omega)]
  unfold va_cpy
  rw [if_neg (by omega)]
theorem cu_hi {α : Type} (f : Nat → α) {p m i : Nat} (x : α) (h : i < m) : (if p + 1 + i = p then x else va_cpy f f p (p + 1) m (p + 1 + i)) = f (p + i) := by
  rw [if_neg (by omega)]
  unfold va_cpy
  rw [if_pos (by omega), show p + (p + 1 + i - (p + 1)) = p + i by omega]
theorem recOk_ins {L : List rI} {f1 f2 f3 : Nat → Int32} {f4 : Nat → UInt32} (h : recOk L f1 f2 f3 f4) (e : rI) :
    recOk (rins L e) (upd (va_cpy f1 f1 (cb L (e.1 + 1)) (cb L (e.1 + 1) + 1) (L.length - cb L (e.1 + 1))) (cb L (e.1 + 1)) (nI e.1)) (upd (va_cpy f2 f2 (cb L (e.1 + 1)) (cb L (e.1 + 1) + 1) (L.length - cb L (e.1 + 1))) (cb L (e.1 + 1)) (nI e.2.1)) (upd (va_cpy f3 f3 (cb L (e.1 + 1)) (cb L (e.1 + 1) + 1) (L.length - cb L (e.1 + 1))) (cb L (e.1 + 1)) (nI e.2.2.1)) (vf_upd (va_cpy f4 f4 (cb L (e.1 + 1)) (cb L (e.1 + 1) + 1) (L.length - cb L (e.1 + 1))) (cb L (e.1 + 1)) e.2.2.2) := by
  have hc := cb_le L (e.1 + 1)
  unfold rins
  generalize cb L (e.1 + 1) = p at hc ⊢
  intro j x hj
  have hlt : (L.take p).length = p := by rw [List.length_take]; omega
  rcases Nat.lt_trichotomy j p with q | q | q
  · rw [List.getElem?_append_left (by omega), List.getElem?_take_of_lt q] at hj
    have := h j x hj
    exact ⟨(cu_lo f1 _ q).trans this.1, (cu_lo f2 _ q).trans this.2.1, (cu_lo f3 _ q).trans this.2.2.1, (cu_lo f4 _ q).trans this.2.2.2⟩
  · subst q
    rw [List.getElem?_append_right (by omega), hlt, Nat.sub_self, List.getElem?_cons_zero] at hj
    cases hj
    simp [upd, vf_upd]
  · rw [List.getElem?_append_right (by omega), hlt] at hj
    obtain ⟨i, rfl⟩ : ∃ i, j = p + 1 + i := ⟨j - (p + 1), by omega⟩
    rw [show p + 1 + i - p = i + 1 by omega, List.getElem?_cons_succ, List.getElem?_drop] at hj
    have hl : p + i < L.length := (List.getElem?_eq_some_iff.mp hj).1
    have := h (p + i) x hj
    have hi : i < L.length - p := by omega
    exact ⟨(cu_hi f1 _ hi).trans this.1, (cu_hi f2 _ hi).trans this.2.1, (cu_hi f3 _ hi).trans this.2.2.1, (cu_hi f4 _ hi).trans this.2.2.2⟩
theorem recOk_drop {L : List rI} {f1 f2 f3 : Nat → Int32} {f4 : Nat → UInt32} (h : recOk L f1 f2 f3 f4) (p : Nat) : recOk (L.drop p) (va_cpy f1 f1 p 0 (L.length - p)) (va_cpy f2 f2 p 0 (L.length - p)) (va_cpy f3 f3 p 0 (L.length - p)) (va_cpy f4 f4 p 0 (L.length - p)) := by
  intro j x hj
  rw [List.getElem?_drop] at hj
  have hl : p + j < L.length := (List.getElem?_eq_some_iff.mp hj).1
  have := h (p + j) x hj
  simp only [va_cpy]
  rw [if_pos (by omega), if_pos (by omega), if_pos (by omega), if_pos (by omega), show p + (j - 0) = p + j by omega]
  exact this
theorem recOk_take {L : List rI} {f1 f2 f3 : Nat → Int32} {f4 : Nat → UInt32} (h : recOk L f1 f2 f3 f4) (p : Nat) : recOk (L.take p) f1 f2 f3 f4 := by
  intro j x hj
  rw [List.getElem?_take] at hj
  split at hj
  · exact h j x hj
  · cases hj
/-- what an input of the record does -/
def actC (c : Nat → UInt32) (e : rI) : Nat → UInt32 := vf_upd c e.2.1 (heldF (chg (c e.2.1) e.2.2.1 e.2.2.2))
theorem actC_fin {c : Nat → UInt32} {e : rI} (h : cfin c) (he : fF e.2.2.2) : cfin (actC c e) := cfin_upd h (heldF_F (chg_N (h _) he))
theorem acts_fin {L : List rI} (he : ∀ e ∈ L, fF e.2.2.2) : ∀ {c : Nat → UInt32}, cfin c → cfin (L.foldl actC c) := by
  induction L with
  | nil => intro c h; exact h
  | cons x t ih => intro c h; exact ih (fun e h => he e (List.mem_cons_of_mem _ h)) (actC_fin h (he x List.mem_cons_self))
section X1
variable {l : Launch} {D : va_G} {cI cF cQ : ClassId} {aT sz : Nat} {o : Nat → Nat} {k : Nat} {f1 f2 f3 : Nat → Int32} {f4 : Nat → UInt32}

set_option maxRecDepth 100000 in
set_option maxHeartbeats 4000000 in
/-- held(x) -/
theorem c_X3_held {x : UInt32} (hx0 : fN x) : Met l yX3_held wsX3_held (rmk 0 0 0) (pcW l D cI cF cQ aT [.float x] [] sz) (vp_Sf (fun r => r = heldF x)) 0 0 (fun _ => False) := by
  refine lz_ofR (cc := cX3_held) (maxL := 1) (ret := (some .float)) (by decide) rfl (Nat.le_of_ble_eq_true rfl) ?_
  intro p e s m below meth c A hx hb hr hlk hC hP hD hS ls hl
  have hts := hC.1.2.2.2.2
  have hown : s.vm.findClass RX3 = some m.cls := hC.1.2.2.2.1
  have hml := hC.1.2.2.1
  have hA := hC.2.1
  have hK := hC.2.2.2.1
  have hnm := hC.2.2.2.2.1
  have hnf := hC.2.2.2.2.2.1
  have hl : lv_has ls 1 [(0, .float x)] := hl
  refine lv_fload_n hx hb dX3_held_0 rfl (lv_at hl 0 rfl) ?_
  refine lv_ldcf (v := cN) hx hb hown (hts (.constantFloat RX3 189 (3347054592)) (List.mem_of_getElem? (i := 1) rfl)) dX3_held_1 ?_
  refine lv_fcmp hx hb dX3_held_3 ?_
  refine lv_if_ge (tgt := 10) hx hb dX3_held_4 (by decide) (fun c_1 => ?_) (fun c_1 => ?_)
  · have h1 := (fl_geg x cN).mp c_1
    refine lv_fload_n hx hb dX3_held_10 rfl (lv_at hl 0 rfl) ?_
    refine lv_ldcf (v := cP) hx hb hown (hts (.constantFloat RX3 190 (1199570944)) (List.mem_of_getElem? (i := 2) rfl)) dX3_held_11 ?_
    refine lv_fcmp hx hb dX3_held_13 ?_
    refine lv_if_le (tgt := 20) hx hb dX3_held_14 (by decide) (fun c_2 => ?_) (fun c_2 => ?_)
    · have h2 := (fl_lel x cP).mp c_2
      refine lv_fload_n hx hb dX3_held_20 rfl (lv_at hl 0 rfl) ?_
      refine lv_fconst0 hx hb dX3_held_21 ?_
      refine lv_fadd hx hb dX3_held_22 (fl_n32 (fl_F (fl_add0 (fl_in cN_F cP_F h1 h2 hx0)))) ?_
      exact W.fret hx hb hr (fun t9 ht9 _ => ⟨_, rfl, (by unfold heldF; rw [if_neg h1, if_neg h2]), ht9⟩) (fun _ h => nomatch h) dX3_held_23
    · have h2 := fun q => c_2 ((fl_lel x cP).mpr q)
      have h2 : FP.fcmp x cP = some .gt := Decidable.not_not.mp h2
      refine lv_ldcf (v := cP) hx hb hown (hts (.constantFloat RX3 190 (1199570944)) (List.mem_of_getElem? (i := 2) rfl)) dX3_held_17 ?_
      exact W.fret hx hb hr (fun t9 ht9 _ => ⟨_, rfl, (by unfold heldF; rw [if_neg h1, if_pos h2]), ht9⟩) (fun _ h => nomatch h) dX3_held_19
  · have h1 := fun q => c_1 ((fl_geg x cN).mpr q)
    have h1 : FP.fcmp x cN = some .lt := Decidable.not_not.mp h1
    refine lv_ldcf (v := cN) hx hb hown (hts (.constantFloat RX3 189 (3347054592)) (List.mem_of_getElem? (i := 1) rfl)) dX3_held_7 ?_
    exact W.fret hx hb hr (fun t9 ht9 _ => ⟨_, rfl, (by unfold heldF; rw [if_pos h1]), ht9⟩) (fun _ h => nomatch h) dX3_held_9

set_option maxRecDepth 100000 in
set_option maxHeartbeats 4000000 in
/-- changed(x, way, number) -/
theorem c_X1_changed {x v : UInt32} {q : Nat} (hq : q ≤ 2) (hx0 : fF x) (hv0 : fF v) : Met l yX1_changed wsX1_changed (rmk 0 0 0) (pcW l D cI cF cQ aT [.float x, .int (nI q), .float v] [] sz) (vp_Sf (fun r => r = chg x q v)) 0 0 (fun _ => False) := by
  refine lz_ofR (cc := cX1_changed) (maxL := 3) (ret := (some .float)) (by decide) rfl (Nat.le_of_ble_eq_true rfl) ?_
  intro p e s m below meth c A hx hb hr hlk hC hP hD hS ls hl
  have hts := hC.1.2.2.2.2
  have hown : s.vm.findClass RX1 = some m.cls := hC.1.2.2.2.1
  have hml := hC.1.2.2.1
  have hA := hC.2.1
  have hK := hC.2.2.2.1
  have hnm := hC.2.2.2.2.1
  have hnf := hC.2.2.2.2.2.1
  have hl : lv_has ls 3 [(0, .float x), (1, .int (nI q)), (2, .float v)] := hl
  refine lv_iload_n hx hb dX1_changed_0 rfl (lv_at hl 1 rfl) ?_
  rcases (show q = 0 ∨ q = 1 ∨ q = 2 by omega) with rfl | rfl | rfl
  · refine lv_lookup (tgt := 28) (off := 27) hx hb dX1_changed_1 (by decide) (by decide) (by decide) ?_
    refine lv_fload_n hx hb dX1_changed_28 rfl (lv_at hl 2 rfl) ?_
    exact W.fret hx hb hr (fun t9 ht9 _ => ⟨_, rfl, rfl, ht9⟩) (fun _ h => nomatch h) dX1_changed_29
  · refine lv_lookup (tgt := 30) (off := 29) hx hb dX1_changed_1 (by decide) (by decide) (by decide) ?_
    refine lv_fload_n hx hb dX1_changed_30 rfl (lv_at hl 0 rfl) ?_
    refine lv_fload_n hx hb dX1_changed_31 rfl (lv_at hl 2 rfl) ?_
    refine lv_fadd hx hb dX1_changed_32 (fl_n32 (fl_add' hx0 (fl_F hv0))) ?_
    exact W.fret hx hb hr (fun t9 ht9 _ => ⟨_, rfl, rfl, ht9⟩) (fun _ h => nomatch h) dX1_changed_33
  · refine lv_lookup (tgt := 34) (off := 33) hx hb dX1_changed_1 (by decide) (by decide) (by decide) ?_
    refine lv_fload_n hx hb dX1_changed_34 rfl (lv_at hl 0 rfl) ?_
    refine lv_fload_n hx hb dX1_changed_35 rfl (lv_at hl 2 rfl) ?_
    refine lv_fmul hx hb dX1_changed_36 (fl_n32 (fl_mul hx0 hv0)) ?_
    exact W.fret hx hb hr (fun t9 ht9 _ => ⟨_, rfl, rfl, ht9⟩) (fun _ h => nomatch h) dX1_changed_37

set_option maxRecDepth 100000 in
set_option maxHeartbeats 4000000 in
/-- sizeBelow(step) -/
theorem c_X1_sizeBelow {x : Int64} {L : List rI} {n : Nat} (hok : recOk L f1 f2 f3 f4) (hs : srt L) (hL : rIn n L) : Met l yX1_sizeBelow wsX1_sizeBelow (rmk 0 0 0) (pcW l D cI cF cQ aT [.ref (o 6), .long x] (recW cI cF o L.length f1 f2 f3 f4) sz) (vp_Si (fun r => r = nI (cb L x.toInt))) 0 0 (fun _ => False) := by
  refine lz_ofR (cc := cX1_sizeBelow) (maxL := 6) (ret := (some .int)) (by decide) rfl (Nat.le_of_ble_eq_true rfl) ?_
  intro p e s m below meth c A hx hb hr hlk hC hP hD hS ls hl
  have hts := hC.1.2.2.2.2
  have hown : s.vm.findClass RX1 = some m.cls := hC.1.2.2.2.1
  have hml := hC.1.2.2.1
  have hA := hC.2.1
  have hK := hC.2.2.2.1
  have hnm := hC.2.2.2.2.1
  have hnf := hC.2.2.2.2.2.1
  have hiX1 : ∀ w ∈ u_ws RX1 TX1 5, w ∈ wsX1_sizeBelow := fun _ h => List.mem_cons_of_mem _ (List.mem_append_right _ h)
  have hl : lv_has ls 6 [(0, .ref (o 6)), (1, .long x)] := hl
  have hk := hL.1
  have hcb := cb_le L x.toInt
  have loop : ∀ (b : Nat), b ≤ 10 → ∀ (bel : Nat), bel ≤ cb L x.toInt → cb L x.toInt < bel + 2 ^ b → ∀ ls : Array Slot, lv_has ls 6 [(4, .int (nI (2 ^ b / 2))), (3, .int (nI bel)), (0, .ref (o 6)), (1, .long x)] → W p l e (rmk 0 0 0) s m [.ref (o 6), .long x].toArray below meth c s.heap [] 0 0 (MQ below (vp_Si (fun r => r = nI (cb L x.toInt))) [.ref (o 6), .long x].toArray s 0 0 (fun _ => False)) (F0 m 7 ls []) := by
    intro b
    induction b with
    | zero =>
      intro _ bel h1 h2 ls hl
      refine lv_iload hx hb dX1_sizeBelow_7 (lv_at hl 0 rfl) ?_
      refine lv_if_le (tgt := 54) hx hb dX1_sizeBelow_9 (by decide) (fun c_1 => ?_) (fun c_1 => absurd (by decide) c_1)
      refine lv_iload_n hx hb dX1_sizeBelow_54 rfl (lv_at hl 1 rfl) ?_
      have hz : cb L x.toInt = bel := by omega
      exact W.iret hx hb hr (fun t9 ht9 _ => ⟨_, rfl, (by rw [hz]), ht9⟩) (fun _ h => nomatch h) dX1_sizeBelow_55
    | succ b ih =>
      intro hb10 bel h1 h2 ls hl
      have hp9 : 2 ^ b ≤ 2 ^ 9 := Nat.pow_le_pow_right (by decide) (by omega)
      have hp0 : 0 < 2 ^ b := Nat.two_pow_pos b
      have hp2 : 2 ^ (b + 1) = 2 * 2 ^ b := by rw [Nat.pow_succ]; omega
      have hih := ih (by omega)
      rw [hp2] at h2 hl
      generalize 2 ^ b = J at hp9 hp0 hp2 hih h2 hl
      rw [show 2 * J / 2 = J by omega] at hl
      refine lv_iload hx hb dX1_sizeBelow_7 (lv_at hl 0 rfl) ?_
      refine lv_if_le (tgt := 54) hx hb dX1_sizeBelow_9 (by decide) (fun c1 => absurd c1 (nI_nle hp0 (by omega))) (fun c1 => ?_)
      refine lv_iload_n hx hb dX1_sizeBelow_12 rfl (lv_at hl 1 rfl) ?_
      refine lv_iload hx hb dX1_sizeBelow_13 (lv_at hl 0 rfl) ?_
      refine lv_iadd hx hb dX1_sizeBelow_15 ?_
      refine lz_i (nI_add _ _) ?_
      refine lv_istore (lv' := [(5, .int (nI (bel + J))), (4, .int (nI J)), (3, .int (nI bel)), (0, .ref (o 6)), (1, .long x)]) hx hb dX1_sizeBelow_16 hl (by decide) rfl (fun ls hl => ?_)
      refine lv_iload hx hb dX1_sizeBelow_18 (lv_at hl 0 rfl) ?_
      refine lv_aload_n hx hb dX1_sizeBelow_20 rfl (lv_at hl 3 rfl) ?_
      refine va_get (D := D) (ci := 1) (v := .int (nI L.length)) (C := RX1) (T := TX1) (N := 5) hx hb hts hiX1 hown hK hP 0 rfl rfl 4 (by decide) (hts (.fieldLink RX1 25 "StateKeeper$InputRecord" "size" "I") (List.mem_of_getElem? (i := 1) rfl)) (fun _ h9 => h9) rfl dX1_sizeBelow_21 ?_
      refine lv_icmp_gt (tgt := 45) hx hb dX1_sizeBelow_24 (by decide) (fun c_2 => ?_) (fun c_2 => ?_)
      · have h3 : L.length < bel + J := (nI_ltI (by omega) (by omega)).mp c_2
        refine lv_iload hx hb dX1_sizeBelow_45 (lv_at hl 1 rfl) ?_
        refine lv_iconst (v := nI 2) hx hb dX1_sizeBelow_47 (by decide) ?_
        refine lv_idiv hx hb dX1_sizeBelow_48 (by decide) ?_
        refine lz_i (pk_div (by omega) (by omega) (by omega)) ?_
        refine lv_istore (lv' := [(4, .int (nI (J / 2))), (5, .int (nI (bel + J))), (3, .int (nI bel)), (0, .ref (o 6)), (1, .long x)]) hx hb dX1_sizeBelow_49 hl (by decide) rfl (fun ls hl => ?_)
        refine lv_goto (tgt := 7) hx hb dX1_sizeBelow_51 (by decide) ?_
        exact hih bel h1 (by omega) ls (lv_sub hl [0, 2, 3, 4] rfl)
      · have h3 : bel + J ≤ L.length := Nat.not_lt.mp (fun q => c_2 ((nI_ltI (by omega) (by omega)).mpr q))
        refine lv_aload_n hx hb dX1_sizeBelow_27 rfl (lv_at hl 3 rfl) ?_
        refine va_get (D := D) (ci := 1) (v := .ref (o 7)) (C := RX1) (T := TX1) (N := 5) hx hb hts hiX1 hown hK hP 0 rfl rfl 0 (by decide) (hts (.fieldLink RX1 9 "StateKeeper$InputRecord" "steps" "[I") (List.mem_of_getElem? (i := 2) rfl)) (fun _ h9 => h9) rfl dX1_sizeBelow_28 ?_
        refine lv_iload hx hb dX1_sizeBelow_31 (lv_at hl 0 rfl) ?_
        refine lv_iconst (v := nI 1) hx hb dX1_sizeBelow_33 (by decide) ?_
        refine lv_isub hx hb dX1_sizeBelow_34 ?_
        refine lz_i (pk_sub (by omega)) ?_
        refine lz_iald hx hb hK hP 1 1 rfl rfl (by omega) (by omega) dX1_sizeBelow_35 ?_
        obtain ⟨e9, he⟩ : ∃ e9, L[bel + J - 1]? = some e9 := ⟨L[bel + J - 1], List.getElem?_eq_getElem (by omega)⟩
        have he1 := (hok _ e9 he).1
        have heb := (hL.2 e9 (List.mem_of_getElem? he)).1
        have hio := cb_iff hs (b := x.toInt) he
        refine lz_i (y := nI e9.1) he1 ?_
        refine lv_i2l (v := (nI e9.1).toInt64) hx hb dX1_sizeBelow_36 rfl ?_
        refine lv_lload_n hx hb dX1_sizeBelow_37 rfl (lv_at hl 4 rfl) ?_
        refine W.lcmp hx hb dX1_sizeBelow_38 ?_
        refine lv_if_ge (tgt := 45) hx hb dX1_sizeBelow_39 (by decide) (fun c_3 => ?_) (fun c_3 => ?_)
        · have h4 := (il_ge _ _).mp c_3
          rw [il_toInt, nI_toInt (by omega)] at h4
          refine lv_iload hx hb dX1_sizeBelow_45 (lv_at hl 1 rfl) ?_
          refine lv_iconst (v := nI 2) hx hb dX1_sizeBelow_47 (by decide) ?_
          refine lv_idiv hx hb dX1_sizeBelow_48 (by decide) ?_
          refine lz_i (pk_div (by omega) (by omega) (by omega)) ?_
          refine lv_istore (lv' := [(4, .int (nI (J / 2))), (5, .int (nI (bel + J))), (3, .int (nI bel)), (0, .ref (o 6)), (1, .long x)]) hx hb dX1_sizeBelow_49 hl (by decide) rfl (fun ls hl => ?_)
          refine lv_goto (tgt := 7) hx hb dX1_sizeBelow_51 (by decide) ?_
          exact hih bel h1 (by omega) ls (lv_sub hl [0, 2, 3, 4] rfl)
        · have h4 : (nI e9.1).toInt64.toInt < x.toInt := Decidable.not_not.mp (fun q => c_3 ((il_ge _ _).mpr q))
          rw [il_toInt, nI_toInt (by omega)] at h4
          refine lv_iload hx hb dX1_sizeBelow_42 (lv_at hl 0 rfl) ?_
          refine lv_istore_n (lv' := [(3, .int (nI (bel + J))), (5, .int (nI (bel + J))), (4, .int (nI J)), (0, .ref (o 6)), (1, .long x)]) hx hb dX1_sizeBelow_44 rfl hl (by decide) rfl (fun ls hl => ?_)
          refine lv_iload hx hb dX1_sizeBelow_45 (lv_at hl 2 rfl) ?_
          refine lv_iconst (v := nI 2) hx hb dX1_sizeBelow_47 (by decide) ?_
          refine lv_idiv hx hb dX1_sizeBelow_48 (by decide) ?_
          refine lz_i (pk_div (by omega) (by omega) (by omega)) ?_
          refine lv_istore (lv' := [(4, .int (nI (J / 2))), (3, .int (nI (bel + J))), (5, .int (nI (bel + J))), (0, .ref (o 6)), (1, .long x)]) hx hb dX1_sizeBelow_49 hl (by decide) rfl (fun ls hl => ?_)
          refine lv_goto (tgt := 7) hx hb dX1_sizeBelow_51 (by decide) ?_
          exact hih (bel + J) (by omega) (by omega) ls (lv_sub hl [0, 1, 3, 4] rfl)
  refine lv_iconst (v := nI 0) hx hb dX1_sizeBelow_0 (by decide) ?_
  refine lv_istore_n (lv' := [(3, .int (nI 0)), (0, .ref (o 6)), (1, .long x)]) hx hb dX1_sizeBelow_1 rfl hl (by decide) rfl (fun ls hl => ?_)
  refine lv_sipush (v := nI 512) hx hb dX1_sizeBelow_2 (by decide) ?_
  refine lv_istore (lv' := [(4, .int (nI 512)), (3, .int (nI 0)), (0, .ref (o 6)), (1, .long x)]) hx hb dX1_sizeBelow_5 hl (by decide) rfl (fun ls hl => ?_)
  exact loop 10 (Nat.le_refl _) 0 (Nat.zero_le _) (by omega) ls hl

set_option maxRecDepth 100000 in
set_option maxHeartbeats 4000000 in
/-- sizeOf(step) -/
theorem c_X1_sizeOf {z : Int32} {L : List rI} {n : Nat} (hok : recOk L f1 f2 f3 f4) (hs : srt L) (hL : rIn n L) : Met l yX1_sizeOf wsX1_sizeOf (rmk 1 0 0) (pcW l D cI cF cQ aT [.ref (o 6), .int z] (recW cI cF o L.length f1 f2 f3 f4) sz) (vp_Si (fun r => r = nI (cq L z.toInt))) 0 0 (fun _ => False) := by
  refine lz_ofR (cc := cX1_sizeOf) (maxL := 2) (ret := (some .int)) (by decide) rfl (Nat.le_of_ble_eq_true rfl) ?_
  intro p e s m below meth c A hx hb hr hlk hC hP hD hS ls hl
  have hts := hC.1.2.2.2.2
  have hown : s.vm.findClass RX1 = some m.cls := hC.1.2.2.2.1
  have hml := hC.1.2.2.1
  have hA := hC.2.1
  have hK := hC.2.2.2.1
  have hnm := hC.2.2.2.2.1
  have hnf := hC.2.2.2.2.2.1
  have hiX1 : ∀ w ∈ u_ws RX1 TX1 5, w ∈ wsX1_sizeOf := fun _ h => List.mem_cons_of_mem _ (List.mem_append_right _ h)
  have hl : lv_has ls 2 [(0, .ref (o 6)), (1, .int z)] := hl
  have hk := hL.1
  have hm := cb_mono L (show z.toInt ≤ z.toInt + 1 by omega)
  have hq := cb_cq L z.toInt
  have hle := cb_le L (z.toInt + 1)
  refine lv_aload_n hx hb dX1_sizeOf_0 rfl (lv_at hl 0 rfl) ?_
  refine lv_iload_n hx hb dX1_sizeOf_1 rfl (lv_at hl 1 rfl) ?_
  refine lv_i2l (v := z.toInt64) hx hb dX1_sizeOf_2 rfl ?_
  refine lv_lconst (v := lN 1) hx hb dX1_sizeOf_3 (by decide) ?_
  refine lv_ladd hx hb dX1_sizeOf_4 ?_
  refine vp_callSi (lz_runV (C := RX1) (As := [.long (z.toInt64 + (lN 1))]) (rest := []) hC hS hl (c_X1_sizeBelow hok hs hL) (cwV 1 hts gX1_sizeOf_X1_sizeBelow rfl rfl rfl (by decide +kernel) ⟨Nat.le_of_ble_eq_true rfl, Nat.le_of_ble_eq_true rfl⟩) hP hD (va_recv hK hP (ci := 1) (q0 := 0) rfl rfl) rfl rfl (Nat.le_of_ble_eq_true rfl) dX1_sizeOf_5 ⟨Nat.le_of_ble_eq_true rfl, Nat.le_of_ble_eq_true rfl⟩).run (fun r_1 er_1 => ?_)
  subst er_1
  refine lz_i (y := nI (cb L (z.toInt + 1))) (by rw [il_1]) ?_
  refine lv_aload_n hx hb dX1_sizeOf_8 rfl (lv_at hl 0 rfl) ?_
  refine lv_iload_n hx hb dX1_sizeOf_9 rfl (lv_at hl 1 rfl) ?_
  refine lv_i2l (v := z.toInt64) hx hb dX1_sizeOf_10 rfl ?_
  refine vp_callSi (lz_runV (C := RX1) (As := [.long z.toInt64]) (rest := [.int (nI (cb L (z.toInt + 1)))]) hC hS hl (c_X1_sizeBelow hok hs hL) (cwV 1 hts gX1_sizeOf_X1_sizeBelow rfl rfl rfl (by decide +kernel) ⟨Nat.le_of_ble_eq_true rfl, Nat.le_of_ble_eq_true rfl⟩) hP hD (va_recv hK hP (ci := 1) (q0 := 0) rfl rfl) rfl rfl (Nat.le_of_ble_eq_true rfl) dX1_sizeOf_11 ⟨Nat.le_of_ble_eq_true rfl, Nat.le_of_ble_eq_true rfl⟩).run (fun r_2 er_2 => ?_)
  subst er_2
  refine lz_i (y := nI (cb L z.toInt)) (by rw [il_toInt]) ?_
  refine lv_isub hx hb dX1_sizeOf_14 ?_
  refine lz_i (pk_sub hm) ?_
  exact W.iret hx hb hr (fun t9 ht9 _ => ⟨_, rfl, (by rw [hq, Nat.add_sub_cancel_left]), ht9⟩) (fun _ h => nomatch h) dX1_sizeOf_15

set_option maxRecDepth 100000 in
set_option maxHeartbeats 4000000 in
/-- moveRest(from, to) -/
theorem c_X1_moveRest {p1 p2 : Nat} (h1 : p1 ≤ k) (h2 : k ≤ 512) (h3 : p2 + (k - p1) ≤ 512) : Met l yX1_moveRest wsX1_moveRest (rmk 1 0 0) (pcW l D cI cF cQ aT [.ref (o 6), .int (nI p1), .int (nI p2)] (recW cI cF o k f1 f2 f3 f4) sz) (va_Qv (fun (w1 : va_W) => w1 = recW cI cF o k (va_cpy f1 f1 p1 p2 (k - p1)) (va_cpy f2 f2 p1 p2 (k - p1)) (va_cpy f3 f3 p1 p2 (k - p1)) (va_cpy f4 f4 p1 p2 (k - p1))) (fun w1 t => va_P D vwCl w1 t.heap) (va_A (recW cI cF o k f1 f2 f3 f4) sz)) 0 0 (va_A (recW cI cF o k f1 f2 f3 f4) sz) := by
  refine lz_ofM (Qf := fun A => va_Qv (fun (w1 : va_W) => w1 = recW cI cF o k (va_cpy f1 f1 p1 p2 (k - p1)) (va_cpy f2 f2 p1 p2 (k - p1)) (va_cpy f3 f3 p1 p2 (k - p1)) (va_cpy f4 f4 p1 p2 (k - p1))) (fun w1 t => va_P D vwCl w1 t.heap) A) (cc := cX1_moveRest) (maxL := 4) (ret := none) (by decide) rfl (Nat.le_of_ble_eq_true rfl) ?_
  intro p e s m below meth c A hAe hsz hx hb hr hlk hin hC hP hD hS ls hl
  clear hAe
  have hts := hC.1.2.2.2.2
  have hown : s.vm.findClass RX1 = some m.cls := hC.1.2.2.2.1
  have hml := hC.1.2.2.1
  have hA := hC.2.1
  have hK := hC.2.2.2.1
  have hnm := hC.2.2.2.2.1
  have hnf := hC.2.2.2.2.2.1
  have hiX1 : ∀ w ∈ u_ws RX1 TX1 5, w ∈ wsX1_moveRest := fun _ h => List.mem_cons_of_mem _ (List.mem_append_right _ h)
  have hl : lv_has ls 4 [(0, .ref (o 6)), (1, .int (nI p1)), (2, .int (nI p2))] := hl
  refine lv_aload_n hx hb dX1_moveRest_0 rfl (lv_at hl 0 rfl) ?_
  refine va_get (D := D) (ci := 1) (v := .int (nI k)) (C := RX1) (T := TX1) (N := 5) hx hb hts hiX1 hown hK hP 0 rfl rfl 4 (by decide) (hts (.fieldLink RX1 25 "StateKeeper$InputRecord" "size" "I") (List.mem_of_getElem? (i := 1) rfl)) (fun _ h9 => h9) rfl dX1_moveRest_1 ?_
  refine lv_iload_n hx hb dX1_moveRest_4 rfl (lv_at hl 1 rfl) ?_
  refine lv_isub hx hb dX1_moveRest_5 ?_
  refine lz_i (pk_sub h1) ?_
  refine lv_istore_n (lv' := [(3, .int (nI (k - p1))), (0, .ref (o 6)), (1, .int (nI p1)), (2, .int (nI p2))]) hx hb dX1_moveRest_6 rfl hl (by decide) rfl (fun ls hl => ?_)
  refine lv_aload_n hx hb dX1_moveRest_7 rfl (lv_at hl 1 rfl) ?_
  refine va_get (D := D) (ci := 1) (v := .ref (o 7)) (C := RX1) (T := TX1) (N := 5) hx hb hts hiX1 hown hK hP 0 rfl rfl 0 (by decide) (hts (.fieldLink RX1 9 "StateKeeper$InputRecord" "steps" "[I") (List.mem_of_getElem? (i := 2) rfl)) (fun _ h9 => h9) rfl dX1_moveRest_8 ?_
  refine lv_iload_n hx hb dX1_moveRest_11 rfl (lv_at hl 2 rfl) ?_
  refine lv_aload_n hx hb dX1_moveRest_12 rfl (lv_at hl 1 rfl) ?_
  refine va_get (D := D) (ci := 1) (v := .ref (o 7)) (C := RX1) (T := TX1) (N := 5) hx hb hts hiX1 hown hK hP 0 rfl rfl 0 (by decide) (hts (.fieldLink RX1 9 "StateKeeper$InputRecord" "steps" "[I") (List.mem_of_getElem? (i := 2) rfl)) (fun _ h9 => h9) rfl dX1_moveRest_13 ?_
  refine lv_iload_n hx hb dX1_moveRest_16 rfl (lv_at hl 3 rfl) ?_
  refine lv_iload_n hx hb dX1_moveRest_17 rfl (lv_at hl 0 rfl) ?_
  refine lz_copyi hx hb (hml.trans hl.1.symm) hown (hts (.methodLink RX1 37 arraycopyName) (List.mem_of_getElem? (i := 3) rfl)) (hts (.native arraycopyName) (List.mem_of_getElem? (i := 4) rfl)) (hts (.static arraycopyName) (List.mem_of_getElem? (i := 5) rfl)) (hts (.initialized "java/lang/System") (List.mem_of_getElem? (i := 6) rfl)) hK hP hD hS 1 1 1 rfl rfl rfl (by omega) (by omega) (by omega) (by omega) (Nat.le_of_ble_eq_true rfl) (Nat.le_of_ble_eq_true rfl) dX1_moveRest_18 (fun H locs hP hD hS => ?_)
  have hP : va_P D vwCl ([((o 6), .inr (1, [.ref (o 7), .ref (o 8), .ref (o 9), .ref (o 10), .int (nI k)])), ((o 7), .inl (cI, 512, .inl (va_cpy f1 f1 p1 p2 (k - p1)))), ((o 8), .inl (cI, 512, .inl f2)), ((o 9), .inl (cI, 512, .inl f3)), ((o 10), .inl (cF, 512, .inr (.inr (.inl f4))))]) H := hP
  have hD : va_D A ([((o 6), .inr (1, [.ref (o 7), .ref (o 8), .ref (o 9), .ref (o 10), .int (nI k)])), ((o 7), .inl (cI, 512, .inl (va_cpy f1 f1 p1 p2 (k - p1)))), ((o 8), .inl (cI, 512, .inl f2)), ((o 9), .inl (cI, 512, .inl f3)), ((o 10), .inl (cF, 512, .inr (.inr (.inl f4))))]) := hD
  refine lv_aload_n hx hb dX1_moveRest_21 rfl (lv_at hl 1 rfl) ?_
  refine va_get (D := D) (ci := 1) (v := .ref (o 8)) (C := RX1) (T := TX1) (N := 5) hx hb hts hiX1 hown hK hP 0 rfl rfl 1 (by decide) (hts (.fieldLink RX1 15 "StateKeeper$InputRecord" "targets" "[I") (List.mem_of_getElem? (i := 7) rfl)) (fun _ h9 => h9) rfl dX1_moveRest_22 ?_
  refine lv_iload_n hx hb dX1_moveRest_25 rfl (lv_at hl 2 rfl) ?_
  refine lv_aload_n hx hb dX1_moveRest_26 rfl (lv_at hl 1 rfl) ?_
  refine va_get (D := D) (ci := 1) (v := .ref (o 8)) (C := RX1) (T := TX1) (N := 5) hx hb hts hiX1 hown hK hP 0 rfl rfl 1 (by decide) (hts (.fieldLink RX1 15 "StateKeeper$InputRecord" "targets" "[I") (List.mem_of_getElem? (i := 7) rfl)) (fun _ h9 => h9) rfl dX1_moveRest_27 ?_
  refine lv_iload_n hx hb dX1_moveRest_30 rfl (lv_at hl 3 rfl) ?_
  refine lv_iload_n hx hb dX1_moveRest_31 rfl (lv_at hl 0 rfl) ?_
  refine lz_copyi hx hb (hml.trans hl.1.symm) hown (hts (.methodLink RX1 37 arraycopyName) (List.mem_of_getElem? (i := 3) rfl)) (hts (.native arraycopyName) (List.mem_of_getElem? (i := 4) rfl)) (hts (.static arraycopyName) (List.mem_of_getElem? (i := 5) rfl)) (hts (.initialized "java/lang/System") (List.mem_of_getElem? (i := 6) rfl)) hK hP hD hS 2 2 1 rfl rfl rfl (by omega) (by omega) (by omega) (by omega) (Nat.le_of_ble_eq_true rfl) (Nat.le_of_ble_eq_true rfl) dX1_moveRest_32 (fun H locs hP hD hS => ?_)
  have hP : va_P D vwCl ([((o 6), .inr (1, [.ref (o 7), .ref (o 8), .ref (o 9), .ref (o 10), .int (nI k)])), ((o 7), .inl (cI, 512, .inl (va_cpy f1 f1 p1 p2 (k - p1)))), ((o 8), .inl (cI, 512, .inl (va_cpy f2 f2 p1 p2 (k - p1)))), ((o 9), .inl (cI, 512, .inl f3)), ((o 10), .inl (cF, 512, .inr (.inr (.inl f4))))]) H := hP
  have hD : va_D A ([((o 6), .inr (1, [.ref (o 7), .ref (o 8), .ref (o 9), .ref (o 10), .int (nI k)])), ((o 7), .inl (cI, 512, .inl (va_cpy f1 f1 p1 p2 (k - p1)))), ((o 8), .inl (cI, 512, .inl (va_cpy f2 f2 p1 p2 (k - p1)))), ((o 9), .inl (cI, 512, .inl f3)), ((o 10), .inl (cF, 512, .inr (.inr (.inl f4))))]) := hD
  refine lv_aload_n hx hb dX1_moveRest_35 rfl (lv_at hl 1 rfl) ?_
  refine va_get (D := D) (ci := 1) (v := .ref (o 9)) (C := RX1) (T := TX1) (N := 5) hx hb hts hiX1 hown hK hP 0 rfl rfl 2 (by decide) (hts (.fieldLink RX1 18 "StateKeeper$InputRecord" "ways" "[I") (List.mem_of_getElem? (i := 8) rfl)) (fun _ h9 => h9) rfl dX1_moveRest_36 ?_
  refine lv_iload_n hx hb dX1_moveRest_39 rfl (lv_at hl 2 rfl) ?_
  refine lv_aload_n hx hb dX1_moveRest_40 rfl (lv_at hl 1 rfl) ?_
  refine va_get (D := D) (ci := 1) (v := .ref (o 9)) (C := RX1) (T := TX1) (N := 5) hx hb hts hiX1 hown hK hP 0 rfl rfl 2 (by decide) (hts (.fieldLink RX1 18 "StateKeeper$InputRecord" "ways" "[I") (List.mem_of_getElem? (i := 8) rfl)) (fun _ h9 => h9) rfl dX1_moveRest_41 ?_
  refine lv_iload_n hx hb dX1_moveRest_44 rfl (lv_at hl 3 rfl) ?_
  refine lv_iload_n hx hb dX1_moveRest_45 rfl (lv_at hl 0 rfl) ?_
  refine lz_copyi hx hb (hml.trans hl.1.symm) hown (hts (.methodLink RX1 37 arraycopyName) (List.mem_of_getElem? (i := 3) rfl)) (hts (.native arraycopyName) (List.mem_of_getElem? (i := 4) rfl)) (hts (.static arraycopyName) (List.mem_of_getElem? (i := 5) rfl)) (hts (.initialized "java/lang/System") (List.mem_of_getElem? (i := 6) rfl)) hK hP hD hS 3 3 1 rfl rfl rfl (by omega) (by omega) (by omega) (by omega) (Nat.le_of_ble_eq_true rfl) (Nat.le_of_ble_eq_true rfl) dX1_moveRest_46 (fun H locs hP hD hS => ?_)
  have hP : va_P D vwCl ([((o 6), .inr (1, [.ref (o 7), .ref (o 8), .ref (o 9), .ref (o 10), .int (nI k)])), ((o 7), .inl (cI, 512, .inl (va_cpy f1 f1 p1 p2 (k - p1)))), ((o 8), .inl (cI, 512, .inl (va_cpy f2 f2 p1 p2 (k - p1)))), ((o 9), .inl (cI, 512, .inl (va_cpy f3 f3 p1 p2 (k - p1)))), ((o 10), .inl (cF, 512, .inr (.inr (.inl f4))))]) H := hP
  have hD : va_D A ([((o 6), .inr (1, [.ref (o 7), .ref (o 8), .ref (o 9), .ref (o 10), .int (nI k)])), ((o 7), .inl (cI, 512, .inl (va_cpy f1 f1 p1 p2 (k - p1)))), ((o 8), .inl (cI, 512, .inl (va_cpy f2 f2 p1 p2 (k - p1)))), ((o 9), .inl (cI, 512, .inl (va_cpy f3 f3 p1 p2 (k - p1)))), ((o 10), .inl (cF, 512, .inr (.inr (.inl f4))))]) := hD
  refine lv_aload_n hx hb dX1_moveRest_49 rfl (lv_at hl 1 rfl) ?_
  refine va_get (D := D) (ci := 1) (v := .ref (o 10)) (C := RX1) (T := TX1) (N := 5) hx hb hts hiX1 hown hK hP 0 rfl rfl 3 (by decide) (hts (.fieldLink RX1 21 "StateKeeper$InputRecord" "numbers" "[F") (List.mem_of_getElem? (i := 9) rfl)) (fun _ h9 => h9) rfl dX1_moveRest_50 ?_
  refine lv_iload_n hx hb dX1_moveRest_53 rfl (lv_at hl 2 rfl) ?_
  refine lv_aload_n hx hb dX1_moveRest_54 rfl (lv_at hl 1 rfl) ?_
  refine va_get (D := D) (ci := 1) (v := .ref (o 10)) (C := RX1) (T := TX1) (N := 5) hx hb hts hiX1 hown hK hP 0 rfl rfl 3 (by decide) (hts (.fieldLink RX1 21 "StateKeeper$InputRecord" "numbers" "[F") (List.mem_of_getElem? (i := 9) rfl)) (fun _ h9 => h9) rfl dX1_moveRest_55 ?_
  refine lv_iload_n hx hb dX1_moveRest_58 rfl (lv_at hl 3 rfl) ?_
  refine lv_iload_n hx hb dX1_moveRest_59 rfl (lv_at hl 0 rfl) ?_
  refine lz_copyf hx hb (hml.trans hl.1.symm) hown (hts (.methodLink RX1 37 arraycopyName) (List.mem_of_getElem? (i := 3) rfl)) (hts (.native arraycopyName) (List.mem_of_getElem? (i := 4) rfl)) (hts (.static arraycopyName) (List.mem_of_getElem? (i := 5) rfl)) (hts (.initialized "java/lang/System") (List.mem_of_getElem? (i := 6) rfl)) hK hP hD hS 4 4 0 rfl rfl rfl (by omega) (by omega) (by omega) (by omega) (Nat.le_of_ble_eq_true rfl) (Nat.le_of_ble_eq_true rfl) dX1_moveRest_60 (fun H locs hP hD hS => ?_)
  have hP : va_P D vwCl ([((o 6), .inr (1, [.ref (o 7), .ref (o 8), .ref (o 9), .ref (o 10), .int (nI k)])), ((o 7), .inl (cI, 512, .inl (va_cpy f1 f1 p1 p2 (k - p1)))), ((o 8), .inl (cI, 512, .inl (va_cpy f2 f2 p1 p2 (k - p1)))), ((o 9), .inl (cI, 512, .inl (va_cpy f3 f3 p1 p2 (k - p1)))), ((o 10), .inl (cF, 512, .inr (.inr (.inl (va_cpy f4 f4 p1 p2 (k - p1))))))]) H := hP
  have hD : va_D A ([((o 6), .inr (1, [.ref (o 7), .ref (o 8), .ref (o 9), .ref (o 10), .int (nI k)])), ((o 7), .inl (cI, 512, .inl (va_cpy f1 f1 p1 p2 (k - p1)))), ((o 8), .inl (cI, 512, .inl (va_cpy f2 f2 p1 p2 (k - p1)))), ((o 9), .inl (cI, 512, .inl (va_cpy f3 f3 p1 p2 (k - p1)))), ((o 10), .inl (cF, 512, .inr (.inr (.inl (va_cpy f4 f4 p1 p2 (k - p1))))))]) := hD
  exact W.vret hx hb hr (fun t9 ht9 _ => ⟨⟨[((o 6), .inr (1, [.ref (o 7), .ref (o 8), .ref (o 9), .ref (o 10), .int (nI k)])), ((o 7), .inl (cI, 512, .inl (va_cpy f1 f1 p1 p2 (k - p1)))), ((o 8), .inl (cI, 512, .inl (va_cpy f2 f2 p1 p2 (k - p1)))), ((o 9), .inl (cI, 512, .inl (va_cpy f3 f3 p1 p2 (k - p1)))), ((o 10), .inl (cF, 512, .inr (.inr (.inl (va_cpy f4 f4 p1 p2 (k - p1))))))], rfl, rfl, by show va_P D vwCl _ t9.heap; rw [ht9]; exact hP⟩, hS.F ht9⟩) hS.2.2 dX1_moveRest_63

end X1
