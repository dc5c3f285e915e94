/-! StateKeeper: the constructors -/
section INIT
variable {l : Launch} {D : va_G} {cI cF cQ : ClassId} {aT sz : Nat}
set_option maxRecDepth 100000 in
set_option maxHeartbeats 4000000 in
/-- new Drifts() -/
theorem c_X0_init {a0 : Nat} : Met l yX0_init wsX0_init (rmk 2 3 192) (pcW l D cI cF cQ aT [.ref a0] [(a0, .inr (0, [.null, .null, .null, .int 0]))] sz) (va_Qv (fun (w1 : va_W) => va_D (va_A [(a0, .inr (0, [.null, .null, .null, .int 0]))] sz) w1 ∧ (∃ o : Nat → Nat, o 2 = a0 ∧ WD cI cF o [] w1)) (fun w1 t => va_P D vwCl w1 t.heap) (va_A [(a0, .inr (0, [.null, .null, .null, .int 0]))] sz)) 3 192 (va_A [(a0, .inr (0, [.null, .null, .null, .int 0]))] sz) := by
  refine lz_ofM (Qf := fun A => va_Qv (fun (w1 : va_W) => va_D A w1 ∧ (∃ o : Nat → Nat, o 2 = a0 ∧ WD cI cF o [] w1)) (fun w1 t => va_P D vwCl w1 t.heap) A) (cc := cX0_init) (maxL := 1) (ret := none) (by decide) rfl (Nat.le_of_ble_eq_true rfl) ?_
  intro p e s m below meth c A hAe hsz hx hb hr hlk hin hC hP hD hS ls hl
  clear hAe
  have hts := hC.1.2.2.2.2
  have hown : s.vm.findClass RX0 = some m.cls := hC.1.2.2.2.1
  have hml := hC.1.2.2.1
  have hA := hC.2.1
  have hK := hC.2.2.2.1
  have hnm := hC.2.2.2.2.1
  have hnf := hC.2.2.2.2.2.1
  have hiX0 : ∀ w ∈ u_ws RX0 TX0 4, w ∈ wsX0_init := fun _ h => List.mem_cons_of_mem _ (List.mem_append_right _ h)
  have hl : lv_has ls 1 [(0, .ref a0)] := hl
  refine lv_aload_n hx hb dX0_init_0 rfl (lv_at hl 0 rfl) ?_
  refine W.objInit hx hb hown (hts (.methodLink RX0 3 objectInit) (List.mem_of_getElem? (i := 1) rfl)) (hts (.instanceMethod objectInit) (List.mem_of_getElem? (i := 2) rfl)) (hts (.code objectInit ⟨#[0xb1]⟩ 1 none) (List.mem_of_getElem? (i := 3) rfl)) rfl (by rw [hml]; exact hl.1) rfl dX0_init_1 (Nat.le_of_ble_eq_true rfl) (Nat.le_of_ble_eq_true rfl) ?_
  show W p l e _ s m _ below meth c _ _ _ _ _ (F0 m 4 ls [])
  refine lv_aload_n hx hb dX0_init_4 rfl (lv_at hl 0 rfl) ?_
  refine lv_bipush (v := nI 64) hx hb dX0_init_5 (by decide) ?_
  refine lz_newi (N := 64) hx hb (hts (.arrayClass .int) (List.mem_of_getElem? (i := 4) rfl)) hK hP hD hS hA 1 rfl (by omega) (Nat.le_of_ble_eq_true rfl) (Nat.le_of_ble_eq_true rfl) dX0_init_7 (fun q_1 H hP hD hS => ?_)
  have hP : va_P D vwCl ([(a0, .inr (0, [.null, .null, .null, .int 0])), (q_1, .inl (cI, 64, .inl (fun _ => 0)))]) H := hP
  have hD : va_D A ([(a0, .inr (0, [.null, .null, .null, .int 0])), (q_1, .inl (cI, 64, .inl (fun _ => 0)))]) := hD
  refine va_putF (D := D) (ci := 0) (v := .ref q_1) (ty := .array .int) (C := RX0) (T := TX0) (N := 4) hx hb hts hiX0 tyX0 tyX0_ok nmX0 hown hK hP hD hS 0 rfl rfl 0 (by decide) (hts (.fieldLink RX0 9 "StateKeeper$Drifts" "sources" "[I") (List.mem_of_getElem? (i := 5) rfl)) (fun _ h9 => h9) rfl hin rfl (by decide +kernel) rfl rfl (Nat.le_of_ble_eq_true rfl) dX0_init_9 (fun H locs hP hD hS => ?_)
  have hP : va_P D vwCl ([(a0, .inr (0, [.ref q_1, .null, .null, .int 0])), (q_1, .inl (cI, 64, .inl (fun _ => 0)))]) H := hP
  have hD : va_D A ([(a0, .inr (0, [.ref q_1, .null, .null, .int 0])), (q_1, .inl (cI, 64, .inl (fun _ => 0)))]) := hD
  refine lv_aload_n hx hb dX0_init_12 rfl (lv_at hl 0 rfl) ?_
  refine lv_bipush (v := nI 64) hx hb dX0_init_13 (by decide) ?_
  refine lz_newi (N := 64) hx hb (hts (.arrayClass .int) (List.mem_of_getElem? (i := 4) rfl)) hK hP hD hS hA 1 rfl (by omega) (Nat.le_of_ble_eq_true rfl) (Nat.le_of_ble_eq_true rfl) dX0_init_15 (fun q_2 H hP hD hS => ?_)
  have hP : va_P D vwCl ([(a0, .inr (0, [.ref q_1, .null, .null, .int 0])), (q_1, .inl (cI, 64, .inl (fun _ => 0))), (q_2, .inl (cI, 64, .inl (fun _ => 0)))]) H := hP
  have hD : va_D A ([(a0, .inr (0, [.ref q_1, .null, .null, .int 0])), (q_1, .inl (cI, 64, .inl (fun _ => 0))), (q_2, .inl (cI, 64, .inl (fun _ => 0)))]) := hD
  refine va_putF (D := D) (ci := 0) (v := .ref q_2) (ty := .array .int) (C := RX0) (T := TX0) (N := 4) hx hb hts hiX0 tyX0 tyX0_ok nmX0 hown hK hP hD hS 0 rfl rfl 1 (by decide) (hts (.fieldLink RX0 15 "StateKeeper$Drifts" "targets" "[I") (List.mem_of_getElem? (i := 6) rfl)) (fun _ h9 => h9) rfl hin rfl (by decide +kernel) rfl rfl (Nat.le_of_ble_eq_true rfl) dX0_init_17 (fun H locs hP hD hS => ?_)
  have hP : va_P D vwCl ([(a0, .inr (0, [.ref q_1, .ref q_2, .null, .int 0])), (q_1, .inl (cI, 64, .inl (fun _ => 0))), (q_2, .inl (cI, 64, .inl (fun _ => 0)))]) H := hP
  have hD : va_D A ([(a0, .inr (0, [.ref q_1, .ref q_2, .null, .int 0])), (q_1, .inl (cI, 64, .inl (fun _ => 0))), (q_2, .inl (cI, 64, .inl (fun _ => 0)))]) := hD
  refine lv_aload_n hx hb dX0_init_20 rfl (lv_at hl 0 rfl) ?_
  refine lv_bipush (v := nI 64) hx hb dX0_init_21 (by decide) ?_
  refine lz_newf (N := 64) hx hb (hts (.arrayClass .float) (List.mem_of_getElem? (i := 7) rfl)) hK hP hD hS hA 0 rfl (by omega) (Nat.le_of_ble_eq_true rfl) (Nat.le_of_ble_eq_true rfl) dX0_init_23 (fun q_3 H hP hD hS => ?_)
  have hP : va_P D vwCl ([(a0, .inr (0, [.ref q_1, .ref q_2, .null, .int 0])), (q_1, .inl (cI, 64, .inl (fun _ => 0))), (q_2, .inl (cI, 64, .inl (fun _ => 0))), (q_3, .inl (cF, 64, .inr (.inr (.inl (fun _ => 0)))))]) H := hP
  have hD : va_D A ([(a0, .inr (0, [.ref q_1, .ref q_2, .null, .int 0])), (q_1, .inl (cI, 64, .inl (fun _ => 0))), (q_2, .inl (cI, 64, .inl (fun _ => 0))), (q_3, .inl (cF, 64, .inr (.inr (.inl (fun _ => 0)))))]) := hD
  refine va_putF (D := D) (ci := 0) (v := .ref q_3) (ty := .array .float) (C := RX0) (T := TX0) (N := 4) hx hb hts hiX0 tyX0 tyX0_ok nmX0 hown hK hP hD hS 0 rfl rfl 2 (by decide) (hts (.fieldLink RX0 18 "StateKeeper$Drifts" "factors" "[F") (List.mem_of_getElem? (i := 8) rfl)) (fun _ h9 => h9) rfl hin rfl (by decide +kernel) rfl rfl (Nat.le_of_ble_eq_true rfl) dX0_init_25 (fun H locs hP hD hS => ?_)
  have hP : va_P D vwCl ([(a0, .inr (0, [.ref q_1, .ref q_2, .ref q_3, .int 0])), (q_1, .inl (cI, 64, .inl (fun _ => 0))), (q_2, .inl (cI, 64, .inl (fun _ => 0))), (q_3, .inl (cF, 64, .inr (.inr (.inl (fun _ => 0)))))]) H := hP
  have hD : va_D A ([(a0, .inr (0, [.ref q_1, .ref q_2, .ref q_3, .int 0])), (q_1, .inl (cI, 64, .inl (fun _ => 0))), (q_2, .inl (cI, 64, .inl (fun _ => 0))), (q_3, .inl (cF, 64, .inr (.inr (.inl (fun _ => 0)))))]) := hD
  refine W.widen (k := 3) (n := 192) (Nat.le_of_ble_eq_true rfl) (Nat.le_of_ble_eq_true rfl) ?_
  exact W.vret hx hb hr (fun t9 ht9 _ => ⟨⟨[(a0, .inr (0, [.ref q_1, .ref q_2, .ref q_3, .int 0])), (q_1, .inl (cI, 64, .inl (fun _ => 0))), (q_2, .inl (cI, 64, .inl (fun _ => 0))), (q_3, .inl (cF, 64, .inr (.inr (.inl (fun _ => 0)))))], rfl, ⟨hD, (fun i => match i with | 2 => a0 | 3 => q_1 | 4 => q_2 | _ => q_3), rfl, _, _, _, fun j d hj => by simp at hj, rfl⟩, by show va_P D vwCl _ t9.heap; rw [ht9]; exact hP⟩, hS.F ht9⟩) hS.2.2 dX0_init_28

set_option maxRecDepth 100000 in
set_option maxHeartbeats 4000000 in
/-- new InputRecord() -/
theorem c_X1_init {a0 : Nat} : Met l yX1_init wsX1_init (rmk 2 4 2048) (pcW l D cI cF cQ aT [.ref a0] [(a0, .inr (1, [.null, .null, .null, .null, .int 0]))] sz) (va_Qv (fun (w1 : va_W) => va_D (va_A [(a0, .inr (1, [.null, .null, .null, .null, .int 0]))] sz) w1 ∧ (∃ o : Nat → Nat, o 6 = a0 ∧ WR cI cF o [] w1)) (fun w1 t => va_P D vwCl w1 t.heap) (va_A [(a0, .inr (1, [.null, .null, .null, .null, .int 0]))] sz)) 4 2048 (va_A [(a0, .inr (1, [.null, .null, .null, .null, .int 0]))] sz) := by
  refine lz_ofM (Qf := fun A => va_Qv (fun (w1 : va_W) => va_D A w1 ∧ (∃ o : Nat → Nat, o 6 = a0 ∧ WR cI cF o [] w1)) (fun w1 t => va_P D vwCl w1 t.heap) A) (cc := cX1_init) (maxL := 1) (ret := none) (by decide) rfl (Nat.le_of_ble_eq_true rfl) ?_
  intro p e s m below meth c A hAe hsz hx hb hr hlk hin hC hP hD hS ls hl
  clear hAe
  have hts := hC.1.2.2.2.2
  have hown : s.vm.findClass RX1 = some m.cls := hC.1.2.2.2.1
  have hml := hC.1.2.2.1
  have hA := hC.2.1
  have hK := hC.2.2.2.1
  have hnm := hC.2.2.2.2.1
  have hnf := hC.2.2.2.2.2.1
  have hiX1 : ∀ w ∈ u_ws RX1 TX1 5, w ∈ wsX1_init := fun _ h => List.mem_cons_of_mem _ (List.mem_append_right _ h)
  have hl : lv_has ls 1 [(0, .ref a0)] := hl
  refine lv_aload_n hx hb dX1_init_0 rfl (lv_at hl 0 rfl) ?_
  refine W.objInit hx hb hown (hts (.methodLink RX1 3 objectInit) (List.mem_of_getElem? (i := 1) rfl)) (hts (.instanceMethod objectInit) (List.mem_of_getElem? (i := 2) rfl)) (hts (.code objectInit ⟨#[0xb1]⟩ 1 none) (List.mem_of_getElem? (i := 3) rfl)) rfl (by rw [hml]; exact hl.1) rfl dX1_init_1 (Nat.le_of_ble_eq_true rfl) (Nat.le_of_ble_eq_true rfl) ?_
  show W p l e _ s m _ below meth c _ _ _ _ _ (F0 m 4 ls [])
  refine lv_aload_n hx hb dX1_init_4 rfl (lv_at hl 0 rfl) ?_
  refine lv_sipush (v := nI 512) hx hb dX1_init_5 (by decide) ?_
  refine lz_newi (N := 512) hx hb (hts (.arrayClass .int) (List.mem_of_getElem? (i := 4) rfl)) hK hP hD hS hA 1 rfl (by omega) (Nat.le_of_ble_eq_true rfl) (Nat.le_of_ble_eq_true rfl) dX1_init_8 (fun q_1 H hP hD hS => ?_)
  have hP : va_P D vwCl ([(a0, .inr (1, [.null, .null, .null, .null, .int 0])), (q_1, .inl (cI, 512, .inl (fun _ => 0)))]) H := hP
  have hD : va_D A ([(a0, .inr (1, [.null, .null, .null, .null, .int 0])), (q_1, .inl (cI, 512, .inl (fun _ => 0)))]) := hD
  refine va_putF (D := D) (ci := 1) (v := .ref q_1) (ty := .array .int) (C := RX1) (T := TX1) (N := 5) hx hb hts hiX1 tyX1 tyX1_ok nmX1 hown hK hP hD hS 0 rfl rfl 0 (by decide) (hts (.fieldLink RX1 9 "StateKeeper$InputRecord" "steps" "[I") (List.mem_of_getElem? (i := 5) rfl)) (fun _ h9 => h9) rfl hin rfl (by decide +kernel) rfl rfl (Nat.le_of_ble_eq_true rfl) dX1_init_10 (fun H locs hP hD hS => ?_)
  have hP : va_P D vwCl ([(a0, .inr (1, [.ref q_1, .null, .null, .null, .int 0])), (q_1, .inl (cI, 512, .inl (fun _ => 0)))]) H := hP
  have hD : va_D A ([(a0, .inr (1, [.ref q_1, .null, .null, .null, .int 0])), (q_1, .inl (cI, 512, .inl (fun _ => 0)))]) := hD
  refine lv_aload_n hx hb dX1_init_13 rfl (lv_at hl 0 rfl) ?_
  refine lv_sipush (v := nI 512) hx hb dX1_init_14 (by decide) ?_
  refine lz_newi (N := 512) hx hb (hts (.arrayClass .int) (List.mem_of_getElem? (i := 4) rfl)) hK hP hD hS hA 1 rfl (by omega) (Nat.le_of_ble_eq_true rfl) (Nat.le_of_ble_eq_true rfl) dX1_init_17 (fun q_2 H hP hD hS => ?_)
  have hP : va_P D vwCl ([(a0, .inr (1, [.ref q_1, .null, .null, .null, .int 0])), (q_1, .inl (cI, 512, .inl (fun _ => 0))), (q_2, .inl (cI, 512, .inl (fun _ => 0)))]) H := hP
  have hD : va_D A ([(a0, .inr (1, [.ref q_1, .null, .null, .null, .int 0])), (q_1, .inl (cI, 512, .inl (fun _ => 0))), (q_2, .inl (cI, 512, .inl (fun _ => 0)))]) := hD
  refine va_putF (D := D) (ci := 1) (v := .ref q_2) (ty := .array .int) (C := RX1) (T := TX1) (N := 5) hx hb hts hiX1 tyX1 tyX1_ok nmX1 hown hK hP hD hS 0 rfl rfl 1 (by decide) (hts (.fieldLink RX1 15 "StateKeeper$InputRecord" "targets" "[I") (List.mem_of_getElem? (i := 6) rfl)) (fun _ h9 => h9) rfl hin rfl (by decide +kernel) rfl rfl (Nat.le_of_ble_eq_true rfl) dX1_init_19 (fun H locs hP hD hS => ?_)
  have hP : va_P D vwCl ([(a0, .inr (1, [.ref q_1, .ref q_2, .null, .null, .int 0])), (q_1, .inl (cI, 512, .inl (fun _ => 0))), (q_2, .inl (cI, 512, .inl (fun _ => 0)))]) H := hP
  have hD : va_D A ([(a0, .inr (1, [.ref q_1, .ref q_2, .null, .null, .int 0])), (q_1, .inl (cI, 512, .inl (fun _ => 0))), (q_2, .inl (cI, 512, .inl (fun _ => 0)))]) := hD
  refine lv_aload_n hx hb dX1_init_22 rfl (lv_at hl 0 rfl) ?_
  refine lv_sipush (v := nI 512) hx hb dX1_init_23 (by decide) ?_
  refine lz_newi (N := 512) hx hb (hts (.arrayClass .int) (List.mem_of_getElem? (i := 4) rfl)) hK hP hD hS hA 1 rfl (by omega) (Nat.le_of_ble_eq_true rfl) (Nat.le_of_ble_eq_true rfl) dX1_init_26 (fun q_3 H hP hD hS => ?_)
  have hP : va_P D vwCl ([(a0, .inr (1, [.ref q_1, .ref q_2, .null, .null, .int 0])), (q_1, .inl (cI, 512, .inl (fun _ => 0))), (q_2, .inl (cI, 512, .inl (fun _ => 0))), (q_3, .inl (cI, 512, .inl (fun _ => 0)))]) H := hP
  have hD : va_D A ([(a0, .inr (1, [.ref q_1, .ref q_2, .null, .null, .int 0])), (q_1, .inl (cI, 512, .inl (fun _ => 0))), (q_2, .inl (cI, 512, .inl (fun _ => 0))), (q_3, .inl (cI, 512, .inl (fun _ => 0)))]) := hD
  refine va_putF (D := D) (ci := 1) (v := .ref q_3) (ty := .array .int) (C := RX1) (T := TX1) (N := 5) hx hb hts hiX1 tyX1 tyX1_ok nmX1 hown hK hP hD hS 0 rfl rfl 2 (by decide) (hts (.fieldLink RX1 18 "StateKeeper$InputRecord" "ways" "[I") (List.mem_of_getElem? (i := 7) rfl)) (fun _ h9 => h9) rfl hin rfl (by decide +kernel) rfl rfl (Nat.le_of_ble_eq_true rfl) dX1_init_28 (fun H locs hP hD hS => ?_)
  have hP : va_P D vwCl ([(a0, .inr (1, [.ref q_1, .ref q_2, .ref q_3, .null, .int 0])), (q_1, .inl (cI, 512, .inl (fun _ => 0))), (q_2, .inl (cI, 512, .inl (fun _ => 0))), (q_3, .inl (cI, 512, .inl (fun _ => 0)))]) H := hP
  have hD : va_D A ([(a0, .inr (1, [.ref q_1, .ref q_2, .ref q_3, .null, .int 0])), (q_1, .inl (cI, 512, .inl (fun _ => 0))), (q_2, .inl (cI, 512, .inl (fun _ => 0))), (q_3, .inl (cI, 512, .inl (fun _ => 0)))]) := hD
  refine lv_aload_n hx hb dX1_init_31 rfl (lv_at hl 0 rfl) ?_
  refine lv_sipush (v := nI 512) hx hb dX1_init_32 (by decide) ?_
  refine lz_newf (N := 512) hx hb (hts (.arrayClass .float) (List.mem_of_getElem? (i := 8) rfl)) hK hP hD hS hA 0 rfl (by omega) (Nat.le_of_ble_eq_true rfl) (Nat.le_of_ble_eq_true rfl) dX1_init_35 (fun q_4 H hP hD hS => ?_)
  have hP : va_P D vwCl ([(a0, .inr (1, [.ref q_1, .ref q_2, .ref q_3, .null, .int 0])), (q_1, .inl (cI, 512, .inl (fun _ => 0))), (q_2, .inl (cI, 512, .inl (fun _ => 0))), (q_3, .inl (cI, 512, .inl (fun _ => 0))), (q_4, .inl (cF, 512, .inr (.inr (.inl (fun _ => 0)))))]) H := hP
  have hD : va_D A ([(a0, .inr (1, [.ref q_1, .ref q_2, .ref q_3, .null, .int 0])), (q_1, .inl (cI, 512, .inl (fun _ => 0))), (q_2, .inl (cI, 512, .inl (fun _ => 0))), (q_3, .inl (cI, 512, .inl (fun _ => 0))), (q_4, .inl (cF, 512, .inr (.inr (.inl (fun _ => 0)))))]) := hD
  refine va_putF (D := D) (ci := 1) (v := .ref q_4) (ty := .array .float) (C := RX1) (T := TX1) (N := 5) hx hb hts hiX1 tyX1 tyX1_ok nmX1 hown hK hP hD hS 0 rfl rfl 3 (by decide) (hts (.fieldLink RX1 21 "StateKeeper$InputRecord" "numbers" "[F") (List.mem_of_getElem? (i := 9) rfl)) (fun _ h9 => h9) rfl hin rfl (by decide +kernel) rfl rfl (Nat.le_of_ble_eq_true rfl) dX1_init_37 (fun H locs hP hD hS => ?_)
  have hP : va_P D vwCl ([(a0, .inr (1, [.ref q_1, .ref q_2, .ref q_3, .ref q_4, .int 0])), (q_1, .inl (cI, 512, .inl (fun _ => 0))), (q_2, .inl (cI, 512, .inl (fun _ => 0))), (q_3, .inl (cI, 512, .inl (fun _ => 0))), (q_4, .inl (cF, 512, .inr (.inr (.inl (fun _ => 0)))))]) H := hP
  have hD : va_D A ([(a0, .inr (1, [.ref q_1, .ref q_2, .ref q_3, .ref q_4, .int 0])), (q_1, .inl (cI, 512, .inl (fun _ => 0))), (q_2, .inl (cI, 512, .inl (fun _ => 0))), (q_3, .inl (cI, 512, .inl (fun _ => 0))), (q_4, .inl (cF, 512, .inr (.inr (.inl (fun _ => 0)))))]) := hD
  refine W.widen (k := 4) (n := 2048) (Nat.le_of_ble_eq_true rfl) (Nat.le_of_ble_eq_true rfl) ?_
  exact W.vret hx hb hr (fun t9 ht9 _ => ⟨⟨[(a0, .inr (1, [.ref q_1, .ref q_2, .ref q_3, .ref q_4, .int 0])), (q_1, .inl (cI, 512, .inl (fun _ => 0))), (q_2, .inl (cI, 512, .inl (fun _ => 0))), (q_3, .inl (cI, 512, .inl (fun _ => 0))), (q_4, .inl (cF, 512, .inr (.inr (.inl (fun _ => 0)))))], rfl, ⟨hD, (fun i => match i with | 6 => a0 | 7 => q_1 | 8 => q_2 | 9 => q_3 | _ => q_4), rfl, _, _, _, _, fun j d hj => by simp at hj, rfl⟩, by show va_P D vwCl _ t9.heap; rw [ht9]; exact hP⟩, hS.F ht9⟩) hS.2.2 dX1_init_40

set_option maxRecDepth 100000 in
set_option maxHeartbeats 4000000 in
/-- new Snapshots(cells) -/
theorem c_X2_init {a0 n : Nat} (hn : n ≤ 256) : Met l yX2_init wsX2_init (rmk 2 18 4128) (pcW l D cI cF cQ aT [.ref a0, .int (nI n)] [(a0, .inr (2, [.null, .null, .int 0, .int 0]))] sz) (va_Qv (fun (w1 : va_W) => va_D (va_A [(a0, .inr (2, [.null, .null, .int 0, .int 0]))] sz) w1 ∧ (∃ o : Nat → Nat, o 11 = a0 ∧ WS cI cF cQ o n [(0, fun _ => 0)] w1)) (fun w1 t => va_P D vwCl w1 t.heap) (va_A [(a0, .inr (2, [.null, .null, .int 0, .int 0]))] sz)) 18 4128 (va_A [(a0, .inr (2, [.null, .null, .int 0, .int 0]))] sz) := by
  refine lz_ofM (Qf := fun A => va_Qv (fun (w1 : va_W) => va_D A w1 ∧ (∃ o : Nat → Nat, o 11 = a0 ∧ WS cI cF cQ o n [(0, fun _ => 0)] w1)) (fun w1 t => va_P D vwCl w1 t.heap) A) (cc := cX2_init) (maxL := 2) (ret := none) (by decide) rfl (Nat.le_of_ble_eq_true rfl) ?_
  intro p e s m below meth c A hAe hsz hx hb hr hlk hin hC hP hD hS ls hl
  clear hAe
  have hts := hC.1.2.2.2.2
  have hown : s.vm.findClass RX2 = some m.cls := hC.1.2.2.2.1
  have hml := hC.1.2.2.1
  have hA := hC.2.1
  have hK := hC.2.2.2.1
  have hnm := hC.2.2.2.2.1
  have hnf := hC.2.2.2.2.2.1
  have hiX2 : ∀ w ∈ u_ws RX2 TX2 4, w ∈ wsX2_init := fun _ h => List.mem_cons_of_mem _ (List.mem_append_right _ h)
  have hl : lv_has ls 2 [(0, .ref a0), (1, .int (nI n))] := hl
  refine lv_aload_n hx hb dX2_init_0 rfl (lv_at hl 0 rfl) ?_
  refine W.objInit hx hb hown (hts (.methodLink RX2 3 objectInit) (List.mem_of_getElem? (i := 1) rfl)) (hts (.instanceMethod objectInit) (List.mem_of_getElem? (i := 2) rfl)) (hts (.code objectInit ⟨#[0xb1]⟩ 1 none) (List.mem_of_getElem? (i := 3) rfl)) rfl (by rw [hml]; exact hl.1) rfl dX2_init_1 (Nat.le_of_ble_eq_true rfl) (Nat.le_of_ble_eq_true rfl) ?_
  show W p l e _ s m _ below meth c _ _ _ _ _ (F0 m 4 ls [])
  refine lv_aload_n hx hb dX2_init_4 rfl (lv_at hl 0 rfl) ?_
  refine lv_bipush (v := nI 16) hx hb dX2_init_5 (by decide) ?_
  refine lz_newi (N := 16) hx hb (hts (.arrayClass .int) (List.mem_of_getElem? (i := 4) rfl)) hK hP hD hS hA 1 rfl (by omega) (Nat.le_of_ble_eq_true rfl) (Nat.le_of_ble_eq_true rfl) dX2_init_7 (fun q_1 H hP hD hS => ?_)
  have hP : va_P D vwCl ([(a0, .inr (2, [.null, .null, .int 0, .int 0])), (q_1, .inl (cI, 16, .inl (fun _ => 0)))]) H := hP
  have hD : va_D A ([(a0, .inr (2, [.null, .null, .int 0, .int 0])), (q_1, .inl (cI, 16, .inl (fun _ => 0)))]) := hD
  refine va_putF (D := D) (ci := 2) (v := .ref q_1) (ty := .array .int) (C := RX2) (T := TX2) (N := 4) hx hb hts hiX2 tyX2 tyX2_ok nmX2 hown hK hP hD hS 0 rfl rfl 0 (by decide) (hts (.fieldLink RX2 9 "StateKeeper$Snapshots" "steps" "[I") (List.mem_of_getElem? (i := 5) rfl)) (fun _ h9 => h9) rfl hin rfl (by decide +kernel) rfl rfl (Nat.le_of_ble_eq_true rfl) dX2_init_9 (fun H locs hP hD hS => ?_)
  have hP : va_P D vwCl ([(a0, .inr (2, [.ref q_1, .null, .int 0, .int 0])), (q_1, .inl (cI, 16, .inl (fun _ => 0)))]) H := hP
  have hD : va_D A ([(a0, .inr (2, [.ref q_1, .null, .int 0, .int 0])), (q_1, .inl (cI, 16, .inl (fun _ => 0)))]) := hD
  refine lv_aload_n hx hb dX2_init_12 rfl (lv_at hl 0 rfl) ?_
  refine lv_bipush (v := nI 16) hx hb dX2_init_13 (by decide) ?_
  refine lv_iload_n hx hb dX2_init_15 rfl (lv_at hl 1 rfl) ?_
  have hover := hC.2.2.2.2.2.2.2.2.2.2.1
  refine lz_newq (N := n) hx hb hown (hts (.classLink RX2 15 "[[F") (List.mem_of_getElem? (i := 6) rfl)) hover (hts (.arrayClass .float) (List.mem_of_getElem? (i := 7) rfl)) hK hP hD hS hA 0 2 rfl rfl (by omega) (Nat.le_of_ble_eq_true rfl) (by show 0 + 16 + (16 + 16 * n) ≤ 4128; omega) dX2_init_16 (fun q r H hP hD hS => ?_)
  have hP : va_P D vwCl ((a0, .inr (2, [.ref q_1, .null, .int 0, .int 0])) :: (q_1, .inl (cI, 16, .inl (fun _ => 0))) :: (q, .inl (cQ, 16, .inr (.inr (.inr (.inr (fun i => if i < 16 then some (r i) else none)))))) :: ((List.range 16).map (fun i => (r i, .inl (cF, n, .inr (.inr (.inl (fun _ => 0)))))))) H := hP
  have hD : va_D A ((a0, .inr (2, [.ref q_1, .null, .int 0, .int 0])) :: (q_1, .inl (cI, 16, .inl (fun _ => 0))) :: (q, .inl (cQ, 16, .inr (.inr (.inr (.inr (fun i => if i < 16 then some (r i) else none)))))) :: ((List.range 16).map (fun i => (r i, .inl (cF, n, .inr (.inr (.inl (fun _ => 0)))))))) := hD
  refine va_putF (D := D) (ci := 2) (v := .ref q) (ty := .array (.array .float)) (C := RX2) (T := TX2) (N := 4) hx hb hts hiX2 tyX2 tyX2_ok nmX2 hown hK hP hD hS 0 rfl rfl 1 (by decide) (hts (.fieldLink RX2 17 "StateKeeper$Snapshots" "rows" "[[F") (List.mem_of_getElem? (i := 8) rfl)) (fun _ h9 => h9) rfl hin rfl (by decide +kernel) rfl rfl (Nat.le_of_ble_eq_true rfl) dX2_init_20 (fun H locs hP hD hS => ?_)
  have hP : va_P D vwCl ((a0, .inr (2, [.ref q_1, .ref q, .int 0, .int 0])) :: (q_1, .inl (cI, 16, .inl (fun _ => 0))) :: (q, .inl (cQ, 16, .inr (.inr (.inr (.inr (fun i => if i < 16 then some (r i) else none)))))) :: ((List.range 16).map (fun i => (r i, .inl (cF, n, .inr (.inr (.inl (fun _ => 0)))))))) H := hP
  have hD : va_D A ((a0, .inr (2, [.ref q_1, .ref q, .int 0, .int 0])) :: (q_1, .inl (cI, 16, .inl (fun _ => 0))) :: (q, .inl (cQ, 16, .inr (.inr (.inr (.inr (fun i => if i < 16 then some (r i) else none)))))) :: ((List.range 16).map (fun i => (r i, .inl (cF, n, .inr (.inr (.inl (fun _ => 0)))))))) := hD
  refine lv_aload_n hx hb dX2_init_23 rfl (lv_at hl 0 rfl) ?_
  refine lv_iconst (v := nI 1) hx hb dX2_init_24 (by decide) ?_
  refine va_put (D := D) (ci := 2) (v := .int (nI 1)) (ty := .int) (C := RX2) (T := TX2) (N := 4) hx hb hts hiX2 tyX2 tyX2_ok nmX2 hown hK hP hD hS 0 rfl rfl 3 (by decide) (hts (.fieldLink RX2 20 "StateKeeper$Snapshots" "size" "I") (List.mem_of_getElem? (i := 9) rfl)) (fun _ h9 => h9) rfl (by decide +kernel) rfl rfl (Nat.le_of_ble_eq_true rfl) dX2_init_25 (fun H locs hP hD hS => ?_)
  have hP : va_P D vwCl ((a0, .inr (2, [.ref q_1, .ref q, .int 0, .int (nI 1)])) :: (q_1, .inl (cI, 16, .inl (fun _ => 0))) :: (q, .inl (cQ, 16, .inr (.inr (.inr (.inr (fun i => if i < 16 then some (r i) else none)))))) :: ((List.range 16).map (fun i => (r i, .inl (cF, n, .inr (.inr (.inl (fun _ => 0)))))))) H := hP
  have hD : va_D A ((a0, .inr (2, [.ref q_1, .ref q, .int 0, .int (nI 1)])) :: (q_1, .inl (cI, 16, .inl (fun _ => 0))) :: (q, .inl (cQ, 16, .inr (.inr (.inr (.inr (fun i => if i < 16 then some (r i) else none)))))) :: ((List.range 16).map (fun i => (r i, .inl (cF, n, .inr (.inr (.inl (fun _ => 0)))))))) := hD
  have ho : ∃ o : Nat → Nat, o 11 = a0 ∧ o 12 = q_1 ∧ o 13 = q ∧ ∀ i, i < 16 → o (14 + i) = r i := ⟨fun i => if i = 11 then a0 else if i = 12 then q_1 else if i = 13 then q else r (i - 14), rfl, rfl, rfl, fun i hi => by show (if 14 + i = 11 then a0 else if 14 + i = 12 then q_1 else if 14 + i = 13 then q else r (14 + i - 14)) = r i; rw [if_neg (by omega), if_neg (by omega), if_neg (by omega), Nat.add_sub_cancel_left]⟩
  obtain ⟨o, ho0, ho1, ho2, ho3⟩ := ho
  refine W.widen (k := 18) (n := 4128) (Nat.le_of_ble_eq_true rfl) (by show 0 + 16 + 16 + 16 * n ≤ 4128; omega) ?_
  refine W.vret hx hb hr (fun t9 ht9 _ => ⟨⟨((a0, .inr (2, [.ref q_1, .ref q, .int 0, .int (nI 1)])) :: (q_1, .inl (cI, 16, .inl (fun _ => 0))) :: (q, .inl (cQ, 16, .inr (.inr (.inr (.inr (fun i => if i < 16 then some (r i) else none)))))) :: ((List.range 16).map (fun i => (r i, .inl (cF, n, .inr (.inr (.inl (fun _ => 0)))))))), rfl, ⟨hD, o, ho0, 0, (fun _ => 0), (fun _ _ => 0), by decide, ?_, ?_⟩, by show va_P D vwCl _ t9.heap; rw [ht9]; exact hP⟩, hS.F ht9⟩) hS.2.2 dX2_init_28
  · intro j e9 hj
    have hl9 : j < 1 := (List.getElem?_eq_some_iff.mp hj).1
    rw [show j = 0 by omega] at hj
    cases hj
    exact ⟨rfl, fun _ _ => rfl⟩
  · show _ = (o 11, _) :: (o 12, _) :: (o 13, _) :: rowsL cF o n (fun _ _ => 0)
    rw [rowsL_of ho3, rowsI_of ho3, ho0, ho1, ho2]
    rfl

/-- how many cells a world has -/
def nOf (z : Int32) : Nat := if 1 ≤ z.toInt ∧ z.toInt ≤ 256 then tn z else 64
def x00 : St := (fun _ => 0, 0, 0, [], [(0, fun _ => 0)])
theorem cfin_z : cfin (fun _ => 0) := fun _ => show fF 0 from (FP.Core.fin_bits32 _).mpr (by decide)
theorem nOf_in (z : Int32) : 1 ≤ nOf z ∧ nOf z ≤ 256 := by
  unfold nOf
  split
  · show 1 ≤ z.toInt.toNat ∧ z.toInt.toNat ≤ 256
    omega
  · decide
theorem x00_ok (z : Int32) : Ok (nOf z) 0 [] x00 := by
  refine ⟨nOf_in z, by decide, ⟨by decide, fun d hd => by cases hd⟩, cfin_z, by decide, ⟨by decide, fun e he => by cases he⟩, ⟨List.pairwise_singleton _ _, by decide, fun e he => ?_⟩, fun e he => ?_, by decide⟩
  · rw [List.mem_singleton.mp he]; decide
  · rw [List.mem_singleton.mp he]; exact ⟨cfin_z, Nat.le_refl 0⟩
set_option maxRecDepth 100000 in
set_option maxHeartbeats 4000000 in
/-- new StateKeeper(cells) -/
theorem c_X3_init {a0 : Nat} {z : Int32} : Met l yX3_init wsX3_init (rmk 4 32 7000) (pcW l D cI cF cQ aT [.ref a0, .int z] [(a0, .inr (3, [.null, .null, .null, .null, .int 0, .int 0, .int 0]))] sz) (va_Qv (fun (w1 : va_W) => va_D (va_A [(a0, .inr (3, [.null, .null, .null, .null, .int 0, .int 0, .int 0]))] sz) w1 ∧ (∃ o : Nat → Nat, o 0 = a0 ∧ WC cI cF cQ o (nOf z) 0 [] x00 w1)) (fun w1 t => va_P D vwCl w1 t.heap) (va_A [(a0, .inr (3, [.null, .null, .null, .null, .int 0, .int 0, .int 0]))] sz)) 32 7000 (va_A [(a0, .inr (3, [.null, .null, .null, .null, .int 0, .int 0, .int 0]))] sz) := by
  refine lz_ofM (Qf := fun A => va_Qv (fun (w1 : va_W) => va_D A w1 ∧ (∃ o : Nat → Nat, o 0 = a0 ∧ WC cI cF cQ o (nOf z) 0 [] x00 w1)) (fun w1 t => va_P D vwCl w1 t.heap) A) (cc := cX3_init) (maxL := 3) (ret := none) (by decide) rfl (Nat.le_of_ble_eq_true rfl) ?_
  intro p e s m below meth c A hAe hsz hx hb hr hlk hin hC hP hD hS ls hl
  clear hAe
  have hts := hC.1.2.2.2.2
  have hown : s.vm.findClass RX3 = some m.cls := hC.1.2.2.2.1
  have hml := hC.1.2.2.1
  have hA := hC.2.1
  have hK := hC.2.2.2.1
  have hnm := hC.2.2.2.2.1
  have hnf := hC.2.2.2.2.2.1
  have hiX3 : ∀ w ∈ u_ws RX3 TX3 7, w ∈ wsX3_init := fun _ h => List.mem_cons_of_mem _ (List.mem_append_left _ (List.mem_append_left _ (List.mem_append_left _ (List.mem_append_right _ h))))
  have hiX0 : ∀ w ∈ u_ws RX0 TX0 4, w ∈ wsX3_init := fun _ h => List.mem_cons_of_mem _ (List.mem_append_left _ (List.mem_append_left _ (List.mem_append_right _ h)))
  have hiX1 : ∀ w ∈ u_ws RX1 TX1 5, w ∈ wsX3_init := fun _ h => List.mem_cons_of_mem _ (List.mem_append_left _ (List.mem_append_right _ h))
  have hiX2 : ∀ w ∈ u_ws RX2 TX2 4, w ∈ wsX3_init := fun _ h => List.mem_cons_of_mem _ (List.mem_append_right _ h)
  have hl : lv_has ls 3 [(0, .ref a0), (1, .int z)] := hl
  refine lv_aload_n hx hb dX3_init_0 rfl (lv_at hl 0 rfl) ?_
  refine W.objInit hx hb hown (hts (.methodLink RX3 1 objectInit) (List.mem_of_getElem? (i := 1) rfl)) (hts (.instanceMethod objectInit) (List.mem_of_getElem? (i := 2) rfl)) (hts (.code objectInit ⟨#[0xb1]⟩ 1 none) (List.mem_of_getElem? (i := 3) rfl)) rfl (by rw [hml]; exact hl.1) rfl dX3_init_1 (Nat.le_of_ble_eq_true rfl) (Nat.le_of_ble_eq_true rfl) ?_
  show W p l e _ s m _ below meth c _ _ _ _ _ (F0 m 4 ls [])
  have rest : ∀ nn : Nat, 1 ≤ nn → nn ≤ 256 → nn = nOf z → ∀ ls : Array Slot, lv_has ls 3 [(0, .ref a0), (1, .int z)] → W p l e (rmk 4 32 7000) s m [.ref a0, .int z].toArray below meth c s.heap [] 0 0 (MQ below (va_Qv (fun (w1 : va_W) => va_D A w1 ∧ (∃ o : Nat → Nat, o 0 = a0 ∧ WC cI cF cQ o (nOf z) 0 [] x00 w1)) (fun w1 t => va_P D vwCl w1 t.heap) A) [.ref a0, .int z].toArray s 32 7000 A) (F0 m 22 ls [.int (nI nn)]) := by
    intro nn hn1 hn2 hnn ls hl
    refine lv_istore_n (lv' := [(2, .int (nI nn)), (0, .ref a0), (1, .int z)]) hx hb dX3_init_22 rfl hl (by decide) rfl (fun ls hl => ?_)
    refine lv_aload_n hx hb dX3_init_23 rfl (lv_at hl 1 rfl) ?_
    refine lv_iload_n hx hb dX3_init_24 rfl (lv_at hl 0 rfl) ?_
    refine lz_newf (N := nn) hx hb (hts (.arrayClass .float) (List.mem_of_getElem? (i := 4) rfl)) hK hP hD hS hA 0 rfl (by omega) (Nat.le_of_ble_eq_true rfl) (by show 0 + nn ≤ 7000; omega) dX3_init_25 (fun q_1 H hP hD hS => ?_)
    have hP : va_P D vwCl ([(a0, .inr (3, [.null, .null, .null, .null, .int 0, .int 0, .int 0])), (q_1, .inl (cF, nn, .inr (.inr (.inl (fun _ => 0)))))]) H := hP
    have hD : va_D A ([(a0, .inr (3, [.null, .null, .null, .null, .int 0, .int 0, .int 0])), (q_1, .inl (cF, nn, .inr (.inr (.inl (fun _ => 0)))))]) := hD
    refine va_putF (D := D) (ci := 3) (v := .ref q_1) (ty := .array .float) (C := RX3) (T := TX3) (N := 7) hx hb hts hiX3 tyX3 tyX3_ok nmX3 hown hK hP hD hS 0 rfl rfl 0 (by decide) (hts (.fieldLink RX3 9 "StateKeeper" "cells" "[F") (List.mem_of_getElem? (i := 5) rfl)) (fun _ h9 => h9) rfl hin rfl (by decide +kernel) rfl rfl (Nat.le_of_ble_eq_true rfl) dX3_init_27 (fun H locs hP hD hS => ?_)
    have hP : va_P D vwCl ([(a0, .inr (3, [.ref q_1, .null, .null, .null, .int 0, .int 0, .int 0])), (q_1, .inl (cF, nn, .inr (.inr (.inl (fun _ => 0)))))]) H := hP
    have hD : va_D A ([(a0, .inr (3, [.ref q_1, .null, .null, .null, .int 0, .int 0, .int 0])), (q_1, .inl (cF, nn, .inr (.inr (.inl (fun _ => 0)))))]) := hD
    refine lv_aload_n hx hb dX3_init_30 rfl (lv_at hl 1 rfl) ?_
    refine va_new (D := D) (ci := 0) (fs := [.null, .null, .null, .int 0]) (C := RX0) (T := TX0) (N := 4) hx hb hts hiX0 tyX0 tyX0_ok hown (hts (.classLink RX3 13 RX0) (List.mem_of_getElem? (i := 6) rfl)) (hts (.instantiable RX0 4) (List.mem_of_getElem? (i := 7) rfl)) (hts (.initialized RX0) (List.mem_of_getElem? (i := 8) rfl)) hK hP hD hS hA rfl (fun j hj => by rcases (show j = 0 ∨ j = 1 ∨ j = 2 ∨ j = 3 by omega) with rfl | rfl | rfl | rfl <;> rfl) (Nat.le_of_ble_eq_true rfl) (by show 0 + nn + 4 ≤ 7000; omega) dX3_init_31 (fun q_2 H hP hD hS => ?_)
    have hP : va_P D vwCl ([(a0, .inr (3, [.ref q_1, .null, .null, .null, .int 0, .int 0, .int 0])), (q_1, .inl (cF, nn, .inr (.inr (.inl (fun _ => 0))))), (q_2, .inr (0, [.null, .null, .null, .int 0]))]) H := hP
    have hD : va_D A ([(a0, .inr (3, [.ref q_1, .null, .null, .null, .int 0, .int 0, .int 0])), (q_1, .inl (cF, nn, .inr (.inr (.inl (fun _ => 0))))), (q_2, .inr (0, [.null, .null, .null, .int 0]))]) := hD
    refine lv_dup hx hb dX3_init_34 rfl ?_
    have hpe : List.Perm (α := Nat × va_E) ([(a0, .inr (3, [.ref q_1, .null, .null, .null, .int 0, .int 0, .int 0])), (q_1, .inl (cF, nn, .inr (.inr (.inl (fun _ => 0)))))] ++ [(q_2, .inr (0, [.null, .null, .null, .int 0]))]) ([(q_2, .inr (0, [.null, .null, .null, .int 0]))] ++ [(a0, .inr (3, [.ref q_1, .null, .null, .null, .int 0, .int 0, .int 0])), (q_1, .inl (cF, nn, .inr (.inr (.inl (fun _ => 0)))))]) := List.perm_append_comm
    have hPc : va_P D vwCl [(q_2, .inr (0, [.null, .null, .null, .int 0]))] _ := lz_cutP hpe hP
    have hDc : va_D A [(q_2, .inr (0, [.null, .null, .null, .int 0]))] := lz_cutD hpe hD
    refine lz_cNv (lz_runIN (As := []) (rest := [.ref q_2, .ref a0]) hC hS hl c_X0_init ⟨va_cnB 0 hts gX3_init_X0_init_n15 rfl rfl rfl (hnm (RX3, 15, yX0_init) (by decide)) (hts (.initialized RX0) (List.mem_of_getElem? (i := 8) rfl)) (by decide +kernel) ⟨Nat.le_of_ble_eq_true rfl, Nat.le_of_ble_eq_true rfl⟩, rfl, (hts (.instanceMethod yX0_init) (List.mem_of_getElem? (i := 18) rfl))⟩ hPc hDc rfl rfl (Nat.le_of_ble_eq_true rfl) dX3_init_35 ⟨Nat.le_of_ble_eq_true rfl, (by show 0 + nn + 4 + 192 ≤ 7000; omega)⟩) hP hD hS hA hpe (fun wD H locs hpo hP hD hS => ?_)
    obtain ⟨oD, hoD, hWoD⟩ := hpo
    replace hP := lz_permP (List.perm_append_comm (α := Nat × va_E) (l₁ := wD) (l₂ := [(a0, .inr (3, [.ref q_1, .null, .null, .null, .int 0, .int 0, .int 0])), (q_1, .inl (cF, nn, .inr (.inr (.inl (fun _ => 0)))))])) hP
    replace hD := lz_permD (List.perm_append_comm (α := Nat × va_E) (l₁ := wD) (l₂ := [(a0, .inr (3, [.ref q_1, .null, .null, .null, .int 0, .int 0, .int 0])), (q_1, .inl (cF, nn, .inr (.inr (.inl (fun _ => 0)))))])) hD
    have hP : va_P D vwCl ((a0, .inr (3, [.ref q_1, .null, .null, .null, .int 0, .int 0, .int 0])) :: (q_1, .inl (cF, nn, .inr (.inr (.inl (fun _ => 0))))) :: wD) H := hP
    have hD : va_D A ((a0, .inr (3, [.ref q_1, .null, .null, .null, .int 0, .int 0, .int 0])) :: (q_1, .inl (cF, nn, .inr (.inr (.inl (fun _ => 0))))) :: wD) := hD
    refine va_putF (D := D) (ci := 3) (v := .ref q_2) (ty := .object "StateKeeper$Drifts") (C := RX3) (T := TX3) (N := 7) hx hb hts hiX3 tyX3 tyX3_ok nmX3 hown hK hP hD hS 0 rfl rfl 1 (by decide) (hts (.fieldLink RX3 16 "StateKeeper" "driftList" "LStateKeeper$Drifts;") (List.mem_of_getElem? (i := 9) rfl)) (fun _ h9 => h9) rfl hin rfl (by decide +kernel) rfl rfl (Nat.le_of_ble_eq_true rfl) dX3_init_38 (fun H locs hP hD hS => ?_)
    have hP : va_P D vwCl ((a0, .inr (3, [.ref q_1, .ref q_2, .null, .null, .int 0, .int 0, .int 0])) :: (q_1, .inl (cF, nn, .inr (.inr (.inl (fun _ => 0))))) :: wD) H := hP
    have hD : va_D A ((a0, .inr (3, [.ref q_1, .ref q_2, .null, .null, .int 0, .int 0, .int 0])) :: (q_1, .inl (cF, nn, .inr (.inr (.inl (fun _ => 0))))) :: wD) := hD
    refine lv_aload_n hx hb dX3_init_41 rfl (lv_at hl 1 rfl) ?_
    refine va_new (D := D) (ci := 1) (fs := [.null, .null, .null, .null, .int 0]) (C := RX1) (T := TX1) (N := 5) hx hb hts hiX1 tyX1 tyX1_ok hown (hts (.classLink RX3 20 RX1) (List.mem_of_getElem? (i := 10) rfl)) (hts (.instantiable RX1 5) (List.mem_of_getElem? (i := 11) rfl)) (hts (.initialized RX1) (List.mem_of_getElem? (i := 12) rfl)) hK hP hD hS hA rfl (fun j hj => by rcases (show j = 0 ∨ j = 1 ∨ j = 2 ∨ j = 3 ∨ j = 4 by omega) with rfl | rfl | rfl | rfl | rfl <;> rfl) (Nat.le_of_ble_eq_true rfl) (by show 0 + nn + 4 + 192 + 5 ≤ 7000; omega) dX3_init_42 (fun q_3 H hP hD hS => ?_)
    have hP : va_P D vwCl ((a0, .inr (3, [.ref q_1, .ref q_2, .null, .null, .int 0, .int 0, .int 0])) :: (q_1, .inl (cF, nn, .inr (.inr (.inl (fun _ => 0))))) :: (wD ++ [(q_3, .inr (1, [.null, .null, .null, .null, .int 0]))])) H := hP
    have hD : va_D A ((a0, .inr (3, [.ref q_1, .ref q_2, .null, .null, .int 0, .int 0, .int 0])) :: (q_1, .inl (cF, nn, .inr (.inr (.inl (fun _ => 0))))) :: (wD ++ [(q_3, .inr (1, [.null, .null, .null, .null, .int 0]))])) := hD
    refine lv_dup hx hb dX3_init_45 rfl ?_
    have hpe : List.Perm (α := Nat × va_E) (((a0, .inr (3, [.ref q_1, .ref q_2, .null, .null, .int 0, .int 0, .int 0])) :: (q_1, .inl (cF, nn, .inr (.inr (.inl (fun _ => 0))))) :: wD) ++ [(q_3, .inr (1, [.null, .null, .null, .null, .int 0]))]) ([(q_3, .inr (1, [.null, .null, .null, .null, .int 0]))] ++ ((a0, .inr (3, [.ref q_1, .ref q_2, .null, .null, .int 0, .int 0, .int 0])) :: (q_1, .inl (cF, nn, .inr (.inr (.inl (fun _ => 0))))) :: wD)) := List.perm_append_comm
    have hPc : va_P D vwCl [(q_3, .inr (1, [.null, .null, .null, .null, .int 0]))] _ := lz_cutP hpe hP
    have hDc : va_D A [(q_3, .inr (1, [.null, .null, .null, .null, .int 0]))] := lz_cutD hpe hD
    refine lz_cNv (lz_runIN (As := []) (rest := [.ref q_3, .ref a0]) hC hS hl c_X1_init ⟨va_cnB 0 hts gX3_init_X1_init_n22 rfl rfl rfl (hnm (RX3, 22, yX1_init) (by decide)) (hts (.initialized RX1) (List.mem_of_getElem? (i := 12) rfl)) (by decide +kernel) ⟨Nat.le_of_ble_eq_true rfl, Nat.le_of_ble_eq_true rfl⟩, rfl, (hts (.instanceMethod yX1_init) (List.mem_of_getElem? (i := 25) rfl))⟩ hPc hDc rfl rfl (Nat.le_of_ble_eq_true rfl) dX3_init_46 ⟨Nat.le_of_ble_eq_true rfl, (by show 0 + nn + 4 + 192 + 5 + 2048 ≤ 7000; omega)⟩) hP hD hS hA hpe (fun wR H locs hpo hP hD hS => ?_)
    obtain ⟨oR, hoR, hWoR⟩ := hpo
    replace hP := lz_permP (List.perm_append_comm (α := Nat × va_E) (l₁ := wR) (l₂ := ((a0, .inr (3, [.ref q_1, .ref q_2, .null, .null, .int 0, .int 0, .int 0])) :: (q_1, .inl (cF, nn, .inr (.inr (.inl (fun _ => 0))))) :: wD))) hP
    replace hD := lz_permD (List.perm_append_comm (α := Nat × va_E) (l₁ := wR) (l₂ := ((a0, .inr (3, [.ref q_1, .ref q_2, .null, .null, .int 0, .int 0, .int 0])) :: (q_1, .inl (cF, nn, .inr (.inr (.inl (fun _ => 0))))) :: wD))) hD
    have hP : va_P D vwCl ((a0, .inr (3, [.ref q_1, .ref q_2, .null, .null, .int 0, .int 0, .int 0])) :: (q_1, .inl (cF, nn, .inr (.inr (.inl (fun _ => 0))))) :: (wD ++ wR)) H := hP
    have hD : va_D A ((a0, .inr (3, [.ref q_1, .ref q_2, .null, .null, .int 0, .int 0, .int 0])) :: (q_1, .inl (cF, nn, .inr (.inr (.inl (fun _ => 0))))) :: (wD ++ wR)) := hD
    refine va_putF (D := D) (ci := 3) (v := .ref q_3) (ty := .object "StateKeeper$InputRecord") (C := RX3) (T := TX3) (N := 7) hx hb hts hiX3 tyX3 tyX3_ok nmX3 hown hK hP hD hS 0 rfl rfl 2 (by decide) (hts (.fieldLink RX3 23 "StateKeeper" "inputRecord" "LStateKeeper$InputRecord;") (List.mem_of_getElem? (i := 13) rfl)) (fun _ h9 => h9) rfl hin rfl (by decide +kernel) rfl rfl (Nat.le_of_ble_eq_true rfl) dX3_init_49 (fun H locs hP hD hS => ?_)
    have hP : va_P D vwCl ((a0, .inr (3, [.ref q_1, .ref q_2, .ref q_3, .null, .int 0, .int 0, .int 0])) :: (q_1, .inl (cF, nn, .inr (.inr (.inl (fun _ => 0))))) :: (wD ++ wR)) H := hP
    have hD : va_D A ((a0, .inr (3, [.ref q_1, .ref q_2, .ref q_3, .null, .int 0, .int 0, .int 0])) :: (q_1, .inl (cF, nn, .inr (.inr (.inl (fun _ => 0))))) :: (wD ++ wR)) := hD
    refine lv_aload_n hx hb dX3_init_52 rfl (lv_at hl 1 rfl) ?_
    refine va_new (D := D) (ci := 2) (fs := [.null, .null, .int 0, .int 0]) (C := RX2) (T := TX2) (N := 4) hx hb hts hiX2 tyX2 tyX2_ok hown (hts (.classLink RX3 27 RX2) (List.mem_of_getElem? (i := 14) rfl)) (hts (.instantiable RX2 4) (List.mem_of_getElem? (i := 15) rfl)) (hts (.initialized RX2) (List.mem_of_getElem? (i := 16) rfl)) hK hP hD hS hA rfl (fun j hj => by rcases (show j = 0 ∨ j = 1 ∨ j = 2 ∨ j = 3 by omega) with rfl | rfl | rfl | rfl <;> rfl) (Nat.le_of_ble_eq_true rfl) (by show 0 + nn + 4 + 192 + 5 + 2048 + 4 ≤ 7000; omega) dX3_init_53 (fun q_4 H hP hD hS => ?_)
    have hP : va_P D vwCl ((a0, .inr (3, [.ref q_1, .ref q_2, .ref q_3, .null, .int 0, .int 0, .int 0])) :: (q_1, .inl (cF, nn, .inr (.inr (.inl (fun _ => 0))))) :: (wD ++ wR ++ [(q_4, .inr (2, [.null, .null, .int 0, .int 0]))])) H := hP
    have hD : va_D A ((a0, .inr (3, [.ref q_1, .ref q_2, .ref q_3, .null, .int 0, .int 0, .int 0])) :: (q_1, .inl (cF, nn, .inr (.inr (.inl (fun _ => 0))))) :: (wD ++ wR ++ [(q_4, .inr (2, [.null, .null, .int 0, .int 0]))])) := hD
    refine lv_dup hx hb dX3_init_56 rfl ?_
    refine lv_iload_n hx hb dX3_init_57 rfl (lv_at hl 0 rfl) ?_
    have hpe : List.Perm (α := Nat × va_E) (((a0, .inr (3, [.ref q_1, .ref q_2, .ref q_3, .null, .int 0, .int 0, .int 0])) :: (q_1, .inl (cF, nn, .inr (.inr (.inl (fun _ => 0))))) :: (wD ++ wR)) ++ [(q_4, .inr (2, [.null, .null, .int 0, .int 0]))]) ([(q_4, .inr (2, [.null, .null, .int 0, .int 0]))] ++ ((a0, .inr (3, [.ref q_1, .ref q_2, .ref q_3, .null, .int 0, .int 0, .int 0])) :: (q_1, .inl (cF, nn, .inr (.inr (.inl (fun _ => 0))))) :: (wD ++ wR))) := List.perm_append_comm
    have hPc : va_P D vwCl [(q_4, .inr (2, [.null, .null, .int 0, .int 0]))] _ := lz_cutP hpe hP
    have hDc : va_D A [(q_4, .inr (2, [.null, .null, .int 0, .int 0]))] := lz_cutD hpe hD
    refine lz_cNv (lz_runIN (As := [.int (nI nn)]) (rest := [.ref q_4, .ref a0]) hC hS hl (c_X2_init hn2) ⟨va_cnB 1 hts gX3_init_X2_init_n29 rfl rfl rfl (hnm (RX3, 29, yX2_init) (by decide)) (hts (.initialized RX2) (List.mem_of_getElem? (i := 16) rfl)) (by decide +kernel) ⟨Nat.le_of_ble_eq_true rfl, Nat.le_of_ble_eq_true rfl⟩, rfl, (hts (.instanceMethod yX2_init) (List.mem_of_getElem? (i := 32) rfl))⟩ hPc hDc rfl rfl (Nat.le_of_ble_eq_true rfl) dX3_init_58 ⟨Nat.le_of_ble_eq_true rfl, (by show 0 + nn + 4 + 192 + 5 + 2048 + 4 + 4128 ≤ 7000; omega)⟩) hP hD hS hA hpe (fun wS H locs hpo hP hD hS => ?_)
    obtain ⟨oS, hoS, hWoS⟩ := hpo
    replace hP := lz_permP (List.perm_append_comm (α := Nat × va_E) (l₁ := wS) (l₂ := ((a0, .inr (3, [.ref q_1, .ref q_2, .ref q_3, .null, .int 0, .int 0, .int 0])) :: (q_1, .inl (cF, nn, .inr (.inr (.inl (fun _ => 0))))) :: (wD ++ wR)))) hP
    replace hD := lz_permD (List.perm_append_comm (α := Nat × va_E) (l₁ := wS) (l₂ := ((a0, .inr (3, [.ref q_1, .ref q_2, .ref q_3, .null, .int 0, .int 0, .int 0])) :: (q_1, .inl (cF, nn, .inr (.inr (.inl (fun _ => 0))))) :: (wD ++ wR)))) hD
    have hP : va_P D vwCl ((a0, .inr (3, [.ref q_1, .ref q_2, .ref q_3, .null, .int 0, .int 0, .int 0])) :: (q_1, .inl (cF, nn, .inr (.inr (.inl (fun _ => 0))))) :: (wD ++ wR ++ wS)) H := hP
    have hD : va_D A ((a0, .inr (3, [.ref q_1, .ref q_2, .ref q_3, .null, .int 0, .int 0, .int 0])) :: (q_1, .inl (cF, nn, .inr (.inr (.inl (fun _ => 0))))) :: (wD ++ wR ++ wS)) := hD
    refine va_putF (D := D) (ci := 3) (v := .ref q_4) (ty := .object "StateKeeper$Snapshots") (C := RX3) (T := TX3) (N := 7) hx hb hts hiX3 tyX3 tyX3_ok nmX3 hown hK hP hD hS 0 rfl rfl 3 (by decide) (hts (.fieldLink RX3 32 "StateKeeper" "snapshots" "LStateKeeper$Snapshots;") (List.mem_of_getElem? (i := 17) rfl)) (fun _ h9 => h9) rfl hin rfl (by decide +kernel) rfl rfl (Nat.le_of_ble_eq_true rfl) dX3_init_61 (fun H locs hP hD hS => ?_)
    have hP : va_P D vwCl ((a0, .inr (3, [.ref q_1, .ref q_2, .ref q_3, .ref q_4, .int 0, .int 0, .int 0])) :: (q_1, .inl (cF, nn, .inr (.inr (.inl (fun _ => 0))))) :: (wD ++ wR ++ wS)) H := hP
    have hD : va_D A ((a0, .inr (3, [.ref q_1, .ref q_2, .ref q_3, .ref q_4, .int 0, .int 0, .int 0])) :: (q_1, .inl (cF, nn, .inr (.inr (.inl (fun _ => 0))))) :: (wD ++ wR ++ wS)) := hD
    subst hnn
    have hall : ∃ o : Nat → Nat, o 0 = a0 ∧ o 1 = q_1 ∧ (∀ i, 2 ≤ i → i < 6 → o i = oD i) ∧ (∀ i, 6 ≤ i → i < 11 → o i = oR i) ∧ (∀ i, 11 ≤ i → o i = oS i) := by
      refine ⟨(fun i => if i = 0 then a0 else if i = 1 then q_1 else if i < 6 then oD i else if i < 11 then oR i else oS i), rfl, rfl, fun i h1 h2 => ?_, fun i h1 h2 => ?_, fun i h1 => ?_⟩
      · show (if i = 0 then a0 else if i = 1 then q_1 else if i < 6 then oD i else if i < 11 then oR i else oS i) = _
        rw [if_neg (by omega), if_neg (by omega), if_pos h2]
      · show (if i = 0 then a0 else if i = 1 then q_1 else if i < 6 then oD i else if i < 11 then oR i else oS i) = _
        rw [if_neg (by omega), if_neg (by omega), if_neg (by omega), if_pos h2]
      · show (if i = 0 then a0 else if i = 1 then q_1 else if i < 6 then oD i else if i < 11 then oR i else oS i) = _
        rw [if_neg (by omega), if_neg (by omega), if_neg (by omega), if_neg (by omega)]
    obtain ⟨o, h0, h1, hoD2, hoR2, hoS2⟩ := hall
    have hWD : WD cI cF o [] wD := by
      obtain ⟨f1, f2, f3, hk, e9⟩ := hWoD
      exact ⟨f1, f2, f3, hk, by rw [e9]; unfold drW; rw [hoD2 2 (by omega) (by omega), hoD2 3 (by omega) (by omega), hoD2 4 (by omega) (by omega), hoD2 5 (by omega) (by omega)]⟩
    have hWR : WR cI cF o [] wR := by
      obtain ⟨f1, f2, f3, f4, hk, e9⟩ := hWoR
      exact ⟨f1, f2, f3, f4, hk, by rw [e9]; unfold recW; rw [hoR2 6 (by omega) (by omega), hoR2 7 (by omega) (by omega), hoR2 8 (by omega) (by omega), hoR2 9 (by omega) (by omega), hoR2 10 (by omega) (by omega)]⟩
    have hWS : WS cI cF cQ o (nOf z) [(0, fun _ => 0)] wS := by
      obtain ⟨a, f1, M, ha, hk, e9⟩ := hWoS
      exact ⟨a, f1, M, ha, hk, by rw [e9]; unfold snapW; rw [rowsL_of (r := fun i => oS (14 + i)) (fun i _ => hoS2 (14 + i) (by omega)), rowsI_of (r := fun i => oS (14 + i)) (fun i _ => hoS2 (14 + i) (by omega)), hoS2 11 (by omega), hoS2 12 (by omega), hoS2 13 (by omega)]; rfl⟩
    have e2 := hoD2 2 (by omega) (by omega)
    have e6 := hoR2 6 (by omega) (by omega)
    have e11 := hoS2 11 (by omega)
    rw [hoD] at e2
    rw [hoR] at e6
    rw [hoS] at e11
    rw [List.append_assoc] at hP hD
    refine W.widen (k := 32) (n := 7000) (Nat.le_of_ble_eq_true rfl) (by show 0 + nOf z + 4 + 192 + 5 + 2048 + 4 + 4128 ≤ 7000; omega) ?_
    exact W.vret hx hb hr (fun t9 ht9 _ => ⟨⟨((a0, .inr (3, [.ref q_1, .ref q_2, .ref q_3, .ref q_4, .int 0, .int 0, .int 0])) :: (q_1, .inl (cF, (nOf z), .inr (.inr (.inl (fun _ => 0))))) :: (wD ++ (wR ++ wS))), rfl, ⟨hD, o, h0, wD, wR, wS, hWD, hWR, hWS, by unfold skW; rw [h0, h1, e2, e6, e11]; rfl⟩, by show va_P D vwCl _ t9.heap; rw [ht9]; exact hP⟩, hS.F ht9⟩) hS.2.2 dX3_init_64
  refine lv_iload_n hx hb dX3_init_4 rfl (lv_at hl 1 rfl) ?_
  refine lv_iconst (v := nI 1) hx hb dX3_init_5 (by decide) ?_
  refine lv_icmp_lt (tgt := 20) hx hb dX3_init_6 (by decide) (fun c_5 => ?_) (fun c_5 => ?_)
  · have e9 : (64 : Nat) = nOf z := by unfold nOf; rw [if_neg (fun q => absurd ((iz_lt_r (a := 1) (by omega)).mp c_5) (by omega))]
    refine lv_bipush (v := nI 64) hx hb dX3_init_20 (by decide) ?_
    exact rest 64 (by omega) (by omega) e9 ls hl
  · have h1 : 1 ≤ z.toInt := by have := mt (iz_lt_r (a := 1) (by omega)).mpr c_5; omega
    refine lv_iload_n hx hb dX3_init_9 rfl (lv_at hl 1 rfl) ?_
    refine lv_sipush (v := nI 256) hx hb dX3_init_10 (by decide) ?_
    refine lv_icmp_gt (tgt := 20) hx hb dX3_init_13 (by decide) (fun c_6 => ?_) (fun c_6 => ?_)
    · have e9 : (64 : Nat) = nOf z := by unfold nOf; rw [if_neg (fun q => absurd ((iz_lt_l (a := 256) (by omega)).mp c_6) (by omega))]
      refine lv_bipush (v := nI 64) hx hb dX3_init_20 (by decide) ?_
      exact rest 64 (by omega) (by omega) e9 ls hl
    · have h2 : z.toInt ≤ 256 := by have := mt (iz_lt_l (a := 256) (by omega)).mpr c_6; omega
      refine lv_iload_n hx hb dX3_init_16 rfl (lv_at hl 1 rfl) ?_
      refine lv_goto (tgt := 22) hx hb dX3_init_17 (by decide) ?_
      obtain ⟨u, hu8, rfl, hu⟩ := iz_nat (z := z) (by omega)
      exact rest u (by omega) (by omega) (by unfold nOf; rw [if_pos ⟨h1, h2⟩, tn_nI hu8]) ls hl

end INIT
