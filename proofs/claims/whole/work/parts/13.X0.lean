/-! StateKeeper$Drifts -/
/-- a drift: from, to, factor -/
abbrev dI : Type := Nat × Nat × UInt32
abbrev drW (cI cF : ClassId) (o : Nat → Nat) (k : Nat) (f1 f2 : Nat → Int32) (f3 : Nat → UInt32) : va_W := [((o 2), .inr (0, [.ref (o 3), .ref (o 4), .ref (o 5), .int (nI k)])), ((o 3), .inl (cI, 64, .inl f1)), ((o 4), .inl (cI, 64, .inl f2)), ((o 5), .inl (cF, 64, .inr (.inr (.inl f3))))]
def drOk (R : List dI) (f1 f2 : Nat → Int32) (f3 : Nat → UInt32) : Prop := ∀ (j : Nat) (d : dI), R[j]? = some d → f1 j = nI d.1 ∧ f2 j = nI d.2.1 ∧ f3 j = d.2.2
def dIn (n : Nat) (R : List dI) : Prop := R.length ≤ 64 ∧ ∀ d ∈ R, d.1 < n ∧ d.2.1 < n ∧ fF d.2.2
def WD (cI cF : ClassId) (o : Nat → Nat) (R : List dI) (w : va_W) : Prop := ∃ f1 f2 f3, drOk R f1 f2 f3 ∧ w = drW cI cF o R.length f1 f2 f3
theorem WD.ad {cI cF : ClassId} {o : Nat → Nat} {R : List dI} {w : va_W} (h : WD cI cF o R w) : w.map Prod.fst = [o 2, o 3, o 4, o 5] := by
  obtain ⟨f1, f2, f3, -, rfl⟩ := h
  rfl
theorem drOk_app {R : List dI} {f1 f2 : Nat → Int32} {f3 : Nat → UInt32} (h : drOk R f1 f2 f3) (d : dI) : drOk (R ++ [d]) (upd f1 R.length (nI d.1)) (upd f2 R.length (nI d.2.1)) (vf_upd f3 R.length d.2.2) := by
  intro j x hj
  by_cases q : j < R.length
  · rw [List.getElem?_append_left q] at hj
    have := h j x hj
    have hne : ¬ j = R.length := by omega
    simp only [upd, vf_upd, hne, if_false]
    exact this
  · rw [List.getElem?_append_right (by omega)] at hj
    have hl : j - R.length < 1 := (List.getElem?_eq_some_iff.mp hj).1
    have e : j = R.length := by omega
    subst e
    rw [Nat.sub_self] at hj
    cases hj
    simp [upd, vf_upd]
/-- what a drift does -/
def drf (c : Nat → UInt32) (d : dI) : Nat → UInt32 := vf_upd c d.2.1 (heldF (FP.fadd (c d.2.1) (FP.fmul (c d.1) d.2.2)))
theorem drf_fin {c : Nat → UInt32} {d : dI} (h : cfin c) (hd : fF d.2.2) : cfin (drf c d) := cfin_upd h (heldF_F (fl_add' (h _) (fl_mul (h _) hd)))
theorem drfs_fin {R : List dI} (he : ∀ e ∈ R, fF e.2.2) : ∀ {c : Nat → UInt32}, cfin c → cfin (R.foldl drf c) := by
  induction R with
  | nil => intro c h; exact h
  | cons x t ih => intro c h; exact ih (fun e h => he e (List.mem_cons_of_mem _ h)) (drf_fin h (he x List.mem_cons_self))
section X0
variable {l : Launch} {D : va_G} {cI cF cQ : ClassId} {aT sz : Nat} {o : Nat → Nat} {k : Nat} {f1 f2 : Nat → Int32} {f3 : Nat → UInt32}

set_option maxRecDepth 100000 in
set_option maxHeartbeats 4000000 in
/-- append(from, to, factor) -/
theorem c_X0_append {u v : Nat} {x : UInt32} {R : List dI} {n : Nat} (hok : drOk R f1 f2 f3) (hL : dIn n R) (hlt : R.length < 64) : Met l yX0_append wsX0_append (rmk 0 0 0) (pcW l D cI cF cQ aT [.ref (o 2), .int (nI u), .int (nI v), .float x] (drW cI cF o R.length f1 f2 f3) sz) (va_Qv (fun (w1 : va_W) => WD cI cF o (R ++ [(u, v, x)]) w1) (fun w1 t => va_P D vwCl w1 t.heap) (va_A (drW cI cF o R.length f1 f2 f3) sz)) 0 0 (va_A (drW cI cF o R.length f1 f2 f3) sz) := by
  refine lz_ofM (Qf := fun A => va_Qv (fun (w1 : va_W) => WD cI cF o (R ++ [(u, v, x)]) w1) (fun w1 t => va_P D vwCl w1 t.heap) A) (cc := cX0_append) (maxL := 4) (ret := none) (by decide) rfl (Nat.le_of_ble_eq_true rfl) ?_
  intro p e s m below meth c A hAe hsz hx hb hr hlk hin hC hP hD hS ls hl
  clear hAe
  have hts := hC.1.2.2.2.2
  have hown : s.vm.findClass RX0 = some m.cls := hC.1.2.2.2.1
  have hml := hC.1.2.2.1
  have hA := hC.2.1
  have hK := hC.2.2.2.1
  have hnm := hC.2.2.2.2.1
  have hnf := hC.2.2.2.2.2.1
  have hiX0 : ∀ w ∈ u_ws RX0 TX0 4, w ∈ wsX0_append := fun _ h => List.mem_cons_of_mem _ (List.mem_append_right _ h)
  have hl : lv_has ls 4 [(0, .ref (o 2)), (1, .int (nI u)), (2, .int (nI v)), (3, .float x)] := hl
  have hk := hL.1
  refine lv_aload_n hx hb dX0_append_0 rfl (lv_at hl 0 rfl) ?_
  refine va_get (D := D) (ci := 0) (v := .ref (o 3)) (C := RX0) (T := TX0) (N := 4) hx hb hts hiX0 hown hK hP 0 rfl rfl 0 (by decide) (hts (.fieldLink RX0 9 "StateKeeper$Drifts" "sources" "[I") (List.mem_of_getElem? (i := 1) rfl)) (fun _ h9 => h9) rfl dX0_append_1 ?_
  refine lv_aload_n hx hb dX0_append_4 rfl (lv_at hl 0 rfl) ?_
  refine va_get (D := D) (ci := 0) (v := .int (nI R.length)) (C := RX0) (T := TX0) (N := 4) hx hb hts hiX0 hown hK hP 0 rfl rfl 3 (by decide) (hts (.fieldLink RX0 22 "StateKeeper$Drifts" "size" "I") (List.mem_of_getElem? (i := 2) rfl)) (fun _ h9 => h9) rfl dX0_append_5 ?_
  refine lv_iload_n hx hb dX0_append_8 rfl (lv_at hl 1 rfl) ?_
  refine lz_iast hx hb hK hP hD hS 1 1 rfl rfl (by omega) (by omega) dX0_append_9 (fun H locs hP hD hS => ?_)
  have hP : va_P D vwCl ([((o 2), .inr (0, [.ref (o 3), .ref (o 4), .ref (o 5), .int (nI R.length)])), ((o 3), .inl (cI, 64, .inl (upd f1 R.length (nI u)))), ((o 4), .inl (cI, 64, .inl f2)), ((o 5), .inl (cF, 64, .inr (.inr (.inl f3))))]) H := hP
  have hD : va_D A ([((o 2), .inr (0, [.ref (o 3), .ref (o 4), .ref (o 5), .int (nI R.length)])), ((o 3), .inl (cI, 64, .inl (upd f1 R.length (nI u)))), ((o 4), .inl (cI, 64, .inl f2)), ((o 5), .inl (cF, 64, .inr (.inr (.inl f3))))]) := hD
  refine lv_aload_n hx hb dX0_append_10 rfl (lv_at hl 0 rfl) ?_
  refine va_get (D := D) (ci := 0) (v := .ref (o 4)) (C := RX0) (T := TX0) (N := 4) hx hb hts hiX0 hown hK hP 0 rfl rfl 1 (by decide) (hts (.fieldLink RX0 15 "StateKeeper$Drifts" "targets" "[I") (List.mem_of_getElem? (i := 3) rfl)) (fun _ h9 => h9) rfl dX0_append_11 ?_
  refine lv_aload_n hx hb dX0_append_14 rfl (lv_at hl 0 rfl) ?_
  refine va_get (D := D) (ci := 0) (v := .int (nI R.length)) (C := RX0) (T := TX0) (N := 4) hx hb hts hiX0 hown hK hP 0 rfl rfl 3 (by decide) (hts (.fieldLink RX0 22 "StateKeeper$Drifts" "size" "I") (List.mem_of_getElem? (i := 2) rfl)) (fun _ h9 => h9) rfl dX0_append_15 ?_
  refine lv_iload_n hx hb dX0_append_18 rfl (lv_at hl 2 rfl) ?_
  refine lz_iast hx hb hK hP hD hS 2 1 rfl rfl (by omega) (by omega) dX0_append_19 (fun H locs hP hD hS => ?_)
  have hP : va_P D vwCl ([((o 2), .inr (0, [.ref (o 3), .ref (o 4), .ref (o 5), .int (nI R.length)])), ((o 3), .inl (cI, 64, .inl (upd f1 R.length (nI u)))), ((o 4), .inl (cI, 64, .inl (upd f2 R.length (nI v)))), ((o 5), .inl (cF, 64, .inr (.inr (.inl f3))))]) H := hP
  have hD : va_D A ([((o 2), .inr (0, [.ref (o 3), .ref (o 4), .ref (o 5), .int (nI R.length)])), ((o 3), .inl (cI, 64, .inl (upd f1 R.length (nI u)))), ((o 4), .inl (cI, 64, .inl (upd f2 R.length (nI v)))), ((o 5), .inl (cF, 64, .inr (.inr (.inl f3))))]) := hD
  refine lv_aload_n hx hb dX0_append_20 rfl (lv_at hl 0 rfl) ?_
  refine va_get (D := D) (ci := 0) (v := .ref (o 5)) (C := RX0) (T := TX0) (N := 4) hx hb hts hiX0 hown hK hP 0 rfl rfl 2 (by decide) (hts (.fieldLink RX0 18 "StateKeeper$Drifts" "factors" "[F") (List.mem_of_getElem? (i := 4) rfl)) (fun _ h9 => h9) rfl dX0_append_21 ?_
  refine lv_aload_n hx hb dX0_append_24 rfl (lv_at hl 0 rfl) ?_
  refine va_get (D := D) (ci := 0) (v := .int (nI R.length)) (C := RX0) (T := TX0) (N := 4) hx hb hts hiX0 hown hK hP 0 rfl rfl 3 (by decide) (hts (.fieldLink RX0 22 "StateKeeper$Drifts" "size" "I") (List.mem_of_getElem? (i := 2) rfl)) (fun _ h9 => h9) rfl dX0_append_25 ?_
  refine lv_fload_n hx hb dX0_append_28 rfl (lv_at hl 3 rfl) ?_
  refine lz_fast hx hb hK hP hD hS 3 0 rfl rfl (by omega) (by omega) dX0_append_29 (fun H locs hP hD hS => ?_)
  have hP : va_P D vwCl ([((o 2), .inr (0, [.ref (o 3), .ref (o 4), .ref (o 5), .int (nI R.length)])), ((o 3), .inl (cI, 64, .inl (upd f1 R.length (nI u)))), ((o 4), .inl (cI, 64, .inl (upd f2 R.length (nI v)))), ((o 5), .inl (cF, 64, .inr (.inr (.inl (vf_upd f3 R.length x)))))]) H := hP
  have hD : va_D A ([((o 2), .inr (0, [.ref (o 3), .ref (o 4), .ref (o 5), .int (nI R.length)])), ((o 3), .inl (cI, 64, .inl (upd f1 R.length (nI u)))), ((o 4), .inl (cI, 64, .inl (upd f2 R.length (nI v)))), ((o 5), .inl (cF, 64, .inr (.inr (.inl (vf_upd f3 R.length x)))))]) := hD
  refine lv_aload_n hx hb dX0_append_30 rfl (lv_at hl 0 rfl) ?_
  refine lv_dup hx hb dX0_append_31 rfl ?_
  refine va_get (D := D) (ci := 0) (v := .int (nI R.length)) (C := RX0) (T := TX0) (N := 4) hx hb hts hiX0 hown hK hP 0 rfl rfl 3 (by decide) (hts (.fieldLink RX0 22 "StateKeeper$Drifts" "size" "I") (List.mem_of_getElem? (i := 2) rfl)) (fun _ h9 => h9) rfl dX0_append_32 ?_
  refine lv_iconst (v := nI 1) hx hb dX0_append_35 (by decide) ?_
  refine lv_iadd hx hb dX0_append_36 ?_
  refine lz_i (nI_add _ _) ?_
  refine va_put (D := D) (ci := 0) (v := .int (nI (R.length + 1))) (ty := .int) (C := RX0) (T := TX0) (N := 4) hx hb hts hiX0 tyX0 tyX0_ok nmX0 hown hK hP hD hS 0 rfl rfl 3 (by decide) (hts (.fieldLink RX0 22 "StateKeeper$Drifts" "size" "I") (List.mem_of_getElem? (i := 2) rfl)) (fun _ h9 => h9) rfl (by decide +kernel) rfl rfl (Nat.le_of_ble_eq_true rfl) dX0_append_37 (fun H locs hP hD hS => ?_)
  have hP : va_P D vwCl ([((o 2), .inr (0, [.ref (o 3), .ref (o 4), .ref (o 5), .int (nI (R.length + 1))])), ((o 3), .inl (cI, 64, .inl (upd f1 R.length (nI u)))), ((o 4), .inl (cI, 64, .inl (upd f2 R.length (nI v)))), ((o 5), .inl (cF, 64, .inr (.inr (.inl (vf_upd f3 R.length x)))))]) H := hP
  have hD : va_D A ([((o 2), .inr (0, [.ref (o 3), .ref (o 4), .ref (o 5), .int (nI (R.length + 1))])), ((o 3), .inl (cI, 64, .inl (upd f1 R.length (nI u)))), ((o 4), .inl (cI, 64, .inl (upd f2 R.length (nI v)))), ((o 5), .inl (cF, 64, .inr (.inr (.inl (vf_upd f3 R.length x)))))]) := hD
  exact W.vret hx hb hr (fun t9 ht9 _ => ⟨⟨[((o 2), .inr (0, [.ref (o 3), .ref (o 4), .ref (o 5), .int (nI (R.length + 1))])), ((o 3), .inl (cI, 64, .inl (upd f1 R.length (nI u)))), ((o 4), .inl (cI, 64, .inl (upd f2 R.length (nI v)))), ((o 5), .inl (cF, 64, .inr (.inr (.inl (vf_upd f3 R.length x)))))], rfl, ⟨_, _, _, drOk_app hok (u, v, x), by rw [List.length_append]; rfl⟩, by show va_P D vwCl _ t9.heap; rw [ht9]; exact hP⟩, hS.F ht9⟩) hS.2.2 dX0_append_40

set_option maxRecDepth 100000 in
set_option maxHeartbeats 4000000 in
/-- flow(cells) -/
theorem c_X0_flow {ce : Nat → UInt32} {R : List dI} {n : Nat} (hok : drOk R f1 f2 f3) (hL : dIn n R) (hn : n ≤ 256) (hce : cfin ce) : Met l yX0_flow wsX0_flow (rmk 1 0 0) (pcW l D cI cF cQ aT [.ref (o 2), .ref (o 1)] (((o 1), .inl (cF, n, .inr (.inr (.inl ce)))) :: (drW cI cF o R.length f1 f2 f3)) sz) (va_Qv (fun (w1 : va_W) => w1 = ((o 1), .inl (cF, n, .inr (.inr (.inl (R.foldl drf ce))))) :: (drW cI cF o R.length f1 f2 f3)) (fun w1 t => va_P D vwCl w1 t.heap) (va_A (((o 1), .inl (cF, n, .inr (.inr (.inl ce)))) :: (drW cI cF o R.length f1 f2 f3)) sz)) 0 0 (va_A (((o 1), .inl (cF, n, .inr (.inr (.inl ce)))) :: (drW cI cF o R.length f1 f2 f3)) sz) := by
  refine lz_ofM (Qf := fun A => va_Qv (fun (w1 : va_W) => w1 = ((o 1), .inl (cF, n, .inr (.inr (.inl (R.foldl drf ce))))) :: (drW cI cF o R.length f1 f2 f3)) (fun w1 t => va_P D vwCl w1 t.heap) A) (cc := cX0_flow) (maxL := 4) (ret := none) (by decide) rfl (Nat.le_of_ble_eq_true rfl) ?_
  intro p e s m below meth c A hAe hsz hx hb hr hlk hin hC hP hD hS ls hl
  clear hAe
  have hts := hC.1.2.2.2.2
  have hown : s.vm.findClass RX0 = some m.cls := hC.1.2.2.2.1
  have hml := hC.1.2.2.1
  have hA := hC.2.1
  have hK := hC.2.2.2.1
  have hnm := hC.2.2.2.2.1
  have hnf := hC.2.2.2.2.2.1
  have hiX0 : ∀ w ∈ u_ws RX0 TX0 4, w ∈ wsX0_flow := fun _ h => List.mem_cons_of_mem _ (List.mem_append_right _ h)
  have hl : lv_has ls 4 [(0, .ref (o 2)), (1, .ref (o 1))] := hl
  have hk := hL.1
  refine lv_iconst (v := nI 0) hx hb dX0_flow_0 (by decide) ?_
  refine lv_istore_n (lv' := [(2, .int (nI 0)), (0, .ref (o 2)), (1, .ref (o 1))]) hx hb dX0_flow_1 rfl hl (by decide) rfl (fun ls hl => ?_)
  have loop : ∀ (r i : Nat), r + i = R.length → ∀ (H : Heap) (locs : List Loc) (ls : Array Slot), va_P D vwCl ([((o 1), .inl (cF, n, .inr (.inr (.inl ((seg R 0 i).foldl drf ce))))), ((o 2), .inr (0, [.ref (o 3), .ref (o 4), .ref (o 5), .int (nI R.length)])), ((o 3), .inl (cI, 64, .inl f1)), ((o 4), .inl (cI, 64, .inl f2)), ((o 5), .inl (cF, 64, .inr (.inr (.inl f3))))]) H → va_D A ([((o 1), .inl (cF, n, .inr (.inr (.inl ((seg R 0 i).foldl drf ce))))), ((o 2), .inr (0, [.ref (o 3), .ref (o 4), .ref (o 5), .int (nI R.length)])), ((o 3), .inl (cI, 64, .inl f1)), ((o 4), .inl (cI, 64, .inl f2)), ((o 5), .inl (cF, 64, .inr (.inr (.inl f3))))]) → va_S A s.heap H locs → lv_has ls 4 [(2, .int (nI i)), (0, .ref (o 2)), (1, .ref (o 1))] → W p l e (rmk 1 0 0) s m [.ref (o 2), .ref (o 1)].toArray below meth c H locs 0 0 (MQ below (va_Qv (fun (w1 : va_W) => w1 = ((o 1), .inl (cF, n, .inr (.inr (.inl (R.foldl drf ce))))) :: (drW cI cF o R.length f1 f2 f3)) (fun w1 t => va_P D vwCl w1 t.heap) A) [.ref (o 2), .ref (o 1)].toArray s 0 0 A) (F0 m 2 ls []) := by
    intro r
    induction r with
    | zero =>
      intro i h1 H locs ls hP hD hS hl
      refine lv_iload_n hx hb dX0_flow_2 rfl (lv_at hl 0 rfl) ?_
      refine lv_aload_n hx hb dX0_flow_3 rfl (lv_at hl 1 rfl) ?_
      refine va_get (D := D) (ci := 0) (v := .int (nI R.length)) (C := RX0) (T := TX0) (N := 4) hx hb hts hiX0 hown hK hP 1 rfl rfl 3 (by decide) (hts (.fieldLink RX0 22 "StateKeeper$Drifts" "size" "I") (List.mem_of_getElem? (i := 1) rfl)) (fun _ h9 => h9) rfl dX0_flow_4 ?_
      refine lv_icmp_ge (tgt := 48) hx hb dX0_flow_7 (by decide) (fun c_1 => ?_) (fun c_1 => absurd (nI_le (by omega) (by omega)) c_1)
      have hi2 : i = R.length := by omega
      subst hi2
      exact W.vret hx hb hr (fun t9 ht9 _ => ⟨⟨[((o 1), .inl (cF, n, .inr (.inr (.inl ((seg R 0 R.length).foldl drf ce))))), ((o 2), .inr (0, [.ref (o 3), .ref (o 4), .ref (o 5), .int (nI R.length)])), ((o 3), .inl (cI, 64, .inl f1)), ((o 4), .inl (cI, 64, .inl f2)), ((o 5), .inl (cF, 64, .inr (.inr (.inl f3))))], rfl, by rw [seg_all], by show va_P D vwCl _ t9.heap; rw [ht9]; exact hP⟩, hS.F ht9⟩) hS.2.2 dX0_flow_48
    | succ r ih =>
      intro i h1 H locs ls hP hD hS hl
      obtain ⟨e9, he⟩ : ∃ e9, R[i]? = some e9 := ⟨R[i], List.getElem?_eq_getElem (by omega)⟩
      have hok9 := hok i e9 he
      have hin9 := hL.2 e9 (List.mem_of_getElem? he)
      have hsg := seg_succ (Nat.zero_le i) he
      have hcf : cfin ((seg R 0 i).foldl drf ce) := drfs_fin (fun x hx => (hL.2 x (seg_mem hx)).2.2) hce
      have hn9 : n < 2 ^ 31 := by omega
      refine lv_iload_n hx hb dX0_flow_2 rfl (lv_at hl 0 rfl) ?_
      refine lv_aload_n hx hb dX0_flow_3 rfl (lv_at hl 1 rfl) ?_
      refine va_get (D := D) (ci := 0) (v := .int (nI R.length)) (C := RX0) (T := TX0) (N := 4) hx hb hts hiX0 hown hK hP 1 rfl rfl 3 (by decide) (hts (.fieldLink RX0 22 "StateKeeper$Drifts" "size" "I") (List.mem_of_getElem? (i := 1) rfl)) (fun _ h9 => h9) rfl dX0_flow_4 ?_
      refine lv_icmp_ge (tgt := 48) hx hb dX0_flow_7 (by decide) (fun c1 => absurd c1 (nI_ge (by omega) (by omega))) (fun c1 => ?_)
      refine lv_aload_n hx hb dX0_flow_10 rfl (lv_at hl 1 rfl) ?_
      refine va_get (D := D) (ci := 0) (v := .ref (o 4)) (C := RX0) (T := TX0) (N := 4) hx hb hts hiX0 hown hK hP 1 rfl rfl 1 (by decide) (hts (.fieldLink RX0 15 "StateKeeper$Drifts" "targets" "[I") (List.mem_of_getElem? (i := 2) rfl)) (fun _ h9 => h9) rfl dX0_flow_11 ?_
      refine lv_iload_n hx hb dX0_flow_14 rfl (lv_at hl 0 rfl) ?_
      refine lz_iald hx hb hK hP 3 1 rfl rfl (by omega) (by omega) dX0_flow_15 ?_
      refine lz_i (y := nI e9.2.1) hok9.2.1 ?_
      refine lv_istore_n (lv' := [(3, .int (nI e9.2.1)), (2, .int (nI i)), (0, .ref (o 2)), (1, .ref (o 1))]) hx hb dX0_flow_16 rfl hl (by decide) rfl (fun ls hl => ?_)
      refine lv_aload_n hx hb dX0_flow_17 rfl (lv_at hl 3 rfl) ?_
      refine lv_iload_n hx hb dX0_flow_18 rfl (lv_at hl 0 rfl) ?_
      refine lv_aload_n hx hb dX0_flow_19 rfl (lv_at hl 3 rfl) ?_
      refine lv_iload_n hx hb dX0_flow_20 rfl (lv_at hl 0 rfl) ?_
      refine lz_fald hx hb hK hP 0 0 rfl rfl hin9.2.1 hn9 dX0_flow_21 ?_
      refine lv_aload_n hx hb dX0_flow_22 rfl (lv_at hl 3 rfl) ?_
      refine lv_aload_n hx hb dX0_flow_23 rfl (lv_at hl 2 rfl) ?_
      refine va_get (D := D) (ci := 0) (v := .ref (o 3)) (C := RX0) (T := TX0) (N := 4) hx hb hts hiX0 hown hK hP 1 rfl rfl 0 (by decide) (hts (.fieldLink RX0 9 "StateKeeper$Drifts" "sources" "[I") (List.mem_of_getElem? (i := 3) rfl)) (fun _ h9 => h9) rfl dX0_flow_24 ?_
      refine lv_iload_n hx hb dX0_flow_27 rfl (lv_at hl 1 rfl) ?_
      refine lz_iald hx hb hK hP 2 1 rfl rfl (by omega) (by omega) dX0_flow_28 ?_
      refine lz_i (y := nI e9.1) hok9.1 ?_
      refine lz_fald hx hb hK hP 0 0 rfl rfl hin9.1 hn9 dX0_flow_29 ?_
      refine lv_aload_n hx hb dX0_flow_30 rfl (lv_at hl 2 rfl) ?_
      refine va_get (D := D) (ci := 0) (v := .ref (o 5)) (C := RX0) (T := TX0) (N := 4) hx hb hts hiX0 hown hK hP 1 rfl rfl 2 (by decide) (hts (.fieldLink RX0 18 "StateKeeper$Drifts" "factors" "[F") (List.mem_of_getElem? (i := 4) rfl)) (fun _ h9 => h9) rfl dX0_flow_31 ?_
      refine lv_iload_n hx hb dX0_flow_34 rfl (lv_at hl 1 rfl) ?_
      refine lz_fald hx hb hK hP 4 0 rfl rfl (by omega) (by omega) dX0_flow_35 ?_
      refine lz_f (y := e9.2.2) hok9.2.2 ?_
      refine lv_fmul hx hb dX0_flow_36 (fl_n32 (fl_mul (hcf _) hin9.2.2)) ?_
      refine lv_fadd hx hb dX0_flow_37 (fl_n32 (fl_add' (hcf _) (fl_mul (hcf _) hin9.2.2))) ?_
      refine vp_callSf (lz_runSN (As := [.float (FP.fadd (((seg R 0 i).foldl drf ce) e9.2.1) (FP.fmul (((seg R 0 i).foldl drf ce) e9.1) (e9.2.2)))]) (rest := [.int (nI e9.2.1), .ref (o 1)]) hC hS hl (c_X3_held (fl_add' (hcf _) (fl_mul (hcf _) hin9.2.2))) ⟨va_cnB 1 hts gX0_flow_X3_held_n26 rfl rfl rfl (hnm (RX0, 26, yX3_held) (by decide)) (hts (.initialized RX3) (List.mem_of_getElem? (i := 6) rfl)) (by decide +kernel) ⟨Nat.le_of_ble_eq_true rfl, Nat.le_of_ble_eq_true rfl⟩, (hts (.static yX3_held) (List.mem_of_getElem? (i := 5) rfl)), trivial⟩ lz_nilP lz_nilD rfl rfl (Nat.le_of_ble_eq_true rfl) dX0_flow_38 ⟨Nat.le_of_ble_eq_true rfl, Nat.le_of_ble_eq_true rfl⟩).run (fun r_2 er_2 => ?_)
      subst er_2
      refine lz_fast hx hb hK hP hD hS 0 0 rfl rfl hin9.2.1 hn9 dX0_flow_41 (fun H locs hP hD hS => ?_)
      have hP : va_P D vwCl ([((o 1), .inl (cF, n, .inr (.inr (.inl (vf_upd ((seg R 0 i).foldl drf ce) e9.2.1 (heldF (FP.fadd (((seg R 0 i).foldl drf ce) e9.2.1) (FP.fmul (((seg R 0 i).foldl drf ce) e9.1) e9.2.2)))))))), ((o 2), .inr (0, [.ref (o 3), .ref (o 4), .ref (o 5), .int (nI R.length)])), ((o 3), .inl (cI, 64, .inl f1)), ((o 4), .inl (cI, 64, .inl f2)), ((o 5), .inl (cF, 64, .inr (.inr (.inl f3))))]) H := hP
      have hD : va_D A ([((o 1), .inl (cF, n, .inr (.inr (.inl (vf_upd ((seg R 0 i).foldl drf ce) e9.2.1 (heldF (FP.fadd (((seg R 0 i).foldl drf ce) e9.2.1) (FP.fmul (((seg R 0 i).foldl drf ce) e9.1) e9.2.2)))))))), ((o 2), .inr (0, [.ref (o 3), .ref (o 4), .ref (o 5), .int (nI R.length)])), ((o 3), .inl (cI, 64, .inl f1)), ((o 4), .inl (cI, 64, .inl f2)), ((o 5), .inl (cF, 64, .inr (.inr (.inl f3))))]) := hD
      refine lv_iinc (v := nI (i + 1)) (lv' := [(2, .int (nI (i + 1))), (3, .int (nI e9.2.1)), (0, .ref (o 2)), (1, .ref (o 1))]) hx hb dX0_flow_42 hl (k := 1) rfl (nI_add _ 1) (by decide) rfl (fun ls hl => ?_)
      refine lv_goto (tgt := 2) hx hb dX0_flow_45 (by decide) ?_
      refine ih (i + 1) (by omega) H locs ls ?_ ?_ hS (lv_sub hl [0, 2, 3] rfl)
      · rw [hsg, List.foldl_append]; exact hP
      · rw [hsg, List.foldl_append]; exact hD
  exact loop R.length 0 (by omega) s.heap [] ls hP hD hS hl

end X0
