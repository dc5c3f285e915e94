/-! StateKeeperModel: its private methods -/
section X4a
variable {l : Launch} {D : va_G} {cI cF cQ : ClassId} {aT sz : Nat} {u : Nat → Nat} {n ev : Nat} {th : Int32} {R : List dI} {x : St} {w : va_W}
set_option maxRecDepth 100000 in
set_option maxHeartbeats 4000000 in
/-- thrown() -/
theorem c_X4_thrown (hw : WM cI cF u n ev th R x w) : Met l yX4_thrown wsX4_thrown (rmk 0 0 0) (pcW l D cI cF cQ aT [.ref (u 0)] w sz) (vp_Si (fun r => r = th)) 0 0 (fun _ => False) := by
  obtain ⟨r1, r2, r3, f1, f2, f3, f4, k1, kc, hdr, hrec, hks, rfl⟩ := id hw
  refine lz_ofR (cc := cX4_thrown) (maxL := 1) (ret := (some .int)) (by decide) rfl (Nat.le_of_ble_eq_true rfl) ?_
  intro p e s m below meth c A hx hb hr hlk hC hP hD hS ls hl
  have hts := hC.1.2.2.2.2
  have hown : s.vm.findClass RX4 = some m.cls := hC.1.2.2.2.1
  have hml := hC.1.2.2.1
  have hA := hC.2.1
  have hK := hC.2.2.2.1
  have hnm := hC.2.2.2.2.1
  have hnf := hC.2.2.2.2.2.1
  have hiX4 : ∀ w ∈ u_ws RX4 TX4 18, w ∈ wsX4_thrown := fun _ h => List.mem_cons_of_mem _ (List.mem_append_right _ h)
  have hl : lv_has ls 1 [(0, .ref (u 0))] := hl
  refine lv_aload_n hx hb dX4_thrown_0 rfl (lv_at hl 0 rfl) ?_
  refine va_get (D := D) (ci := 4) (v := .int th) (C := RX4) (T := TX4) (N := 18) hx hb hts hiX4 hown hK hP 0 rfl rfl 0 (by decide) (hts (.fieldLink RX4 48 "StateKeeperModel" "thrown" "I") (List.mem_of_getElem? (i := 1) rfl)) (fun _ h9 => h9) rfl dX4_thrown_1 ?_
  exact W.iret hx hb hr (fun t9 ht9 _ => ⟨_, rfl, rfl, ht9⟩) (fun _ h => nomatch h) dX4_thrown_4

set_option maxRecDepth 100000 in
set_option maxHeartbeats 4000000 in
/-- known(i) -/
theorem c_X4_known {z : Int32} (hw : WM cI cF u n ev th R x w) (hn : n ≤ 256) : Met l yX4_known wsX4_known (rmk 0 0 0) (pcW l D cI cF cQ aT [.ref (u 0), .int z] w sz) (vp_Si (fun r => bz (kn n z) r)) 0 0 (fun _ => False) := by
  obtain ⟨r1, r2, r3, f1, f2, f3, f4, k1, kc, hdr, hrec, hks, rfl⟩ := id hw
  refine lz_ofR (cc := cX4_known) (maxL := 2) (ret := (some .boolean)) (by decide) rfl (Nat.le_of_ble_eq_true rfl) ?_
  intro p e s m below meth c A hx hb hr hlk hC hP hD hS ls hl
  have hts := hC.1.2.2.2.2
  have hown : s.vm.findClass RX4 = some m.cls := hC.1.2.2.2.1
  have hml := hC.1.2.2.1
  have hA := hC.2.1
  have hK := hC.2.2.2.1
  have hnm := hC.2.2.2.2.1
  have hnf := hC.2.2.2.2.2.1
  have hiX4 : ∀ w ∈ u_ws RX4 TX4 18, w ∈ wsX4_known := fun _ h => List.mem_cons_of_mem _ (List.mem_append_right _ h)
  have hl : lv_has ls 2 [(0, .ref (u 0)), (1, .int z)] := hl
  refine lv_iload_n hx hb dX4_known_0 rfl (lv_at hl 1 rfl) ?_
  refine lv_if_lt (tgt := 16) hx hb dX4_known_1 (by decide) (fun c_1 => ?_) (fun c_1 => ?_)
  · refine lv_iconst (v := nI 0) hx hb dX4_known_16 (by decide) ?_
    exact W.zret hx hb hr (by first | rfl | decide) (fun t9 ht9 _ => ⟨_, rfl, (Or.inr ⟨fun q => absurd (iz_lt0.mp c_1) (by omega), rfl⟩), ht9⟩) (fun _ h => nomatch h) dX4_known_17
  · have h0 : 0 ≤ z.toInt := by have := mt iz_lt0.mpr c_1; omega
    refine lv_iload_n hx hb dX4_known_4 rfl (lv_at hl 1 rfl) ?_
    refine lv_aload_n hx hb dX4_known_5 rfl (lv_at hl 0 rfl) ?_
    refine va_get (D := D) (ci := 4) (v := .int (nI n)) (C := RX4) (T := TX4) (N := 18) hx hb hts hiX4 hown hK hP 0 rfl rfl 1 (by decide) (hts (.fieldLink RX4 41 "StateKeeperModel" "n" "I") (List.mem_of_getElem? (i := 1) rfl)) (fun _ h9 => h9) rfl dX4_known_6 ?_
    refine lv_icmp_ge (tgt := 16) hx hb dX4_known_9 (by decide) (fun c_2 => ?_) (fun c_2 => ?_)
    · refine lv_iconst (v := nI 0) hx hb dX4_known_16 (by decide) ?_
      exact W.zret hx hb hr (by first | rfl | decide) (fun t9 ht9 _ => ⟨_, rfl, (Or.inr ⟨fun q => absurd ((iz_le_l (by omega)).mp c_2) (by omega), rfl⟩), ht9⟩) (fun _ h => nomatch h) dX4_known_17
    · have h1 : z.toInt < (n : Int) := by have := mt (iz_le_l (a := n) (by omega)).mpr c_2; omega
      refine lv_iconst (v := nI 1) hx hb dX4_known_12 (by decide) ?_
      refine lv_goto (tgt := 17) hx hb dX4_known_13 (by decide) ?_
      exact W.zret hx hb hr (by first | rfl | decide) (fun t9 ht9 _ => ⟨_, rfl, (Or.inl ⟨⟨h0, h1⟩, rfl⟩), ht9⟩) (fun _ h => nomatch h) dX4_known_17

set_option maxRecDepth 100000 in
set_option maxHeartbeats 4000000 in
/-- within(v) -/
theorem c_X4_within {v : UInt32} : Met l yX4_within wsX4_within (rmk 0 0 0) (pcW l D cI cF cQ aT [.float v] w sz) (vp_Si (fun r => bz (inF cN cP v) r)) 0 0 (fun _ => False) := by
  refine lz_ofR (cc := cX4_within) (maxL := 1) (ret := (some .boolean)) (by decide) rfl (Nat.le_of_ble_eq_true rfl) ?_
  intro p e s m below meth c A hx hb hr hlk hC hP hD hS ls hl
  have hts := hC.1.2.2.2.2
  have hown : s.vm.findClass RX4 = some m.cls := hC.1.2.2.2.1
  have hml := hC.1.2.2.1
  have hA := hC.2.1
  have hK := hC.2.2.2.1
  have hnm := hC.2.2.2.2.1
  have hnf := hC.2.2.2.2.2.1
  have hl : lv_has ls 1 [(0, .float v)] := hl
  refine lv_fload_n hx hb dX4_within_0 rfl (lv_at hl 0 rfl) ?_
  refine lv_ldcf (v := cN) hx hb hown (hts (.constantFloat RX4 51 (3347054592)) (List.mem_of_getElem? (i := 1) rfl)) dX4_within_1 ?_
  refine lv_fcmp hx hb dX4_within_3 ?_
  refine lv_if_lt (tgt := 18) hx hb dX4_within_4 (by decide) (fun c_1 => ?_) (fun c_1 => ?_)
  · refine lv_iconst (v := nI 0) hx hb dX4_within_18 (by decide) ?_
    exact W.zret hx hb hr (by first | rfl | decide) (fun t9 ht9 _ => ⟨_, rfl, (Or.inr ⟨fun q => (fl_ltl _ _).mp c_1 q.1, rfl⟩), ht9⟩) (fun _ h => nomatch h) dX4_within_19
  · have h0 := Decidable.not_not.mp (mt (fl_ltl _ _).mpr c_1)
    refine lv_fload_n hx hb dX4_within_7 rfl (lv_at hl 0 rfl) ?_
    refine lv_ldcf (v := cP) hx hb hown (hts (.constantFloat RX4 52 (1199570944)) (List.mem_of_getElem? (i := 2) rfl)) dX4_within_8 ?_
    refine lv_fcmp hx hb dX4_within_10 ?_
    refine lv_if_gt (tgt := 18) hx hb dX4_within_11 (by decide) (fun c_2 => ?_) (fun c_2 => ?_)
    · refine lv_iconst (v := nI 0) hx hb dX4_within_18 (by decide) ?_
      exact W.zret hx hb hr (by first | rfl | decide) (fun t9 ht9 _ => ⟨_, rfl, (Or.inr ⟨fun q => (fl_gtg _ _).mp c_2 q.2, rfl⟩), ht9⟩) (fun _ h => nomatch h) dX4_within_19
    · have h1 := Decidable.not_not.mp (mt (fl_gtg _ _).mpr c_2)
      refine lv_iconst (v := nI 1) hx hb dX4_within_14 (by decide) ?_
      refine lv_goto (tgt := 19) hx hb dX4_within_15 (by decide) ?_
      exact W.zret hx hb hr (by first | rfl | decide) (fun t9 ht9 _ => ⟨_, rfl, (Or.inl ⟨⟨h0, h1⟩, rfl⟩), ht9⟩) (fun _ h => nomatch h) dX4_within_19

set_option maxRecDepth 100000 in
set_option maxHeartbeats 4000000 in
/-- held(v) -/
theorem c_X4_held {v : UInt32} (hv0 : fN v) : Met l yX4_held wsX4_held (rmk 0 0 0) (pcW l D cI cF cQ aT [.float v] w sz) (vp_Sf (fun r => r = heldF v)) 0 0 (fun _ => False) := by
  refine lz_ofR (cc := cX4_held) (maxL := 1) (ret := (some .float)) (by decide) rfl (Nat.le_of_ble_eq_true rfl) ?_
  intro p e s m below meth c A hx hb hr hlk hC hP hD hS ls hl
  have hts := hC.1.2.2.2.2
  have hown : s.vm.findClass RX4 = some m.cls := hC.1.2.2.2.1
  have hml := hC.1.2.2.1
  have hA := hC.2.1
  have hK := hC.2.2.2.1
  have hnm := hC.2.2.2.2.1
  have hnf := hC.2.2.2.2.2.1
  have hl : lv_has ls 1 [(0, .float v)] := hl
  refine lv_fload_n hx hb dX4_held_0 rfl (lv_at hl 0 rfl) ?_
  refine lv_ldcf (v := cN) hx hb hown (hts (.constantFloat RX4 51 (3347054592)) (List.mem_of_getElem? (i := 1) rfl)) dX4_held_1 ?_
  refine lv_fcmp hx hb dX4_held_3 ?_
  refine lv_if_ge (tgt := 12) hx hb dX4_held_4 (by decide) (fun c_1 => ?_) (fun c_1 => ?_)
  · have h0 := (fl_geg _ _).mp c_1
    refine lv_fload_n hx hb dX4_held_12 rfl (lv_at hl 0 rfl) ?_
    refine lv_ldcf (v := cP) hx hb hown (hts (.constantFloat RX4 52 (1199570944)) (List.mem_of_getElem? (i := 2) rfl)) dX4_held_13 ?_
    refine lv_fcmp hx hb dX4_held_15 ?_
    refine lv_if_le (tgt := 24) hx hb dX4_held_16 (by decide) (fun c_2 => ?_) (fun c_2 => ?_)
    · have h1 := (fl_lel _ _).mp c_2
      refine lv_fload_n hx hb dX4_held_24 rfl (lv_at hl 0 rfl) ?_
      refine lv_fconst0 hx hb dX4_held_25 ?_
      refine lv_fadd hx hb dX4_held_26 (fl_n32 (fl_add hv0 c0_F)) ?_
      exact W.fret hx hb hr (fun t9 ht9 _ => ⟨_, rfl, by unfold heldF; rw [if_neg h0, if_neg h1], ht9⟩) (fun _ h => nomatch h) dX4_held_27
    · have h1 := Decidable.not_not.mp (mt (fl_lel _ _).mpr c_2)
      refine lv_ldcf (v := cP) hx hb hown (hts (.constantFloat RX4 52 (1199570944)) (List.mem_of_getElem? (i := 2) rfl)) dX4_held_19 ?_
      refine lv_goto (tgt := 27) hx hb dX4_held_21 (by decide) ?_
      exact W.fret hx hb hr (fun t9 ht9 _ => ⟨_, rfl, by unfold heldF; rw [if_neg h0, if_pos h1], ht9⟩) (fun _ h => nomatch h) dX4_held_27
  · have h0 := Decidable.not_not.mp (mt (fl_geg _ _).mpr c_1)
    refine lv_ldcf (v := cN) hx hb hown (hts (.constantFloat RX4 51 (3347054592)) (List.mem_of_getElem? (i := 1) rfl)) dX4_held_7 ?_
    refine lv_goto (tgt := 27) hx hb dX4_held_9 (by decide) ?_
    exact W.fret hx hb hr (fun t9 ht9 _ => ⟨_, rfl, by unfold heldF; rw [if_pos h0], ht9⟩) (fun _ h => nomatch h) dX4_held_27

set_option maxRecDepth 100000 in
set_option maxHeartbeats 4000000 in
/-- goes(first, second, third) -/
theorem c_X4_goes {P1 P2 P3 : Prop} {b1 b2 b3 : Int32} (h1 : bz P1 b1) (h2 : bz P2 b2) (h3 : bz P3 b3) (hw : WM cI cF u n ev th R x w) : Met l yX4_goes wsX4_goes (rmk 0 0 0) (pcW l D cI cF cQ aT [.ref (u 0), .int b1, .int b2, .int b3] w sz) (va_Qi (fun (r : Int32) (w1 : va_W) => ∃ k, cdR P1 P2 P3 k ∧ bz (k = 0) r ∧ WM cI cF u n ev (nI k) R x w1) (fun w1 t => va_P D vwCl w1 t.heap) (va_A w sz)) 0 0 (va_A w sz) := by
  obtain ⟨r1, r2, r3, f1, f2, f3, f4, k1, kc, hdr, hrec, hks, rfl⟩ := id hw
  refine lz_ofM (Qf := fun A => va_Qi (fun (r : Int32) (w1 : va_W) => ∃ k, cdR P1 P2 P3 k ∧ bz (k = 0) r ∧ WM cI cF u n ev (nI k) R x w1) (fun w1 t => va_P D vwCl w1 t.heap) A) (cc := cX4_goes) (maxL := 4) (ret := (some .boolean)) (by decide) rfl (Nat.le_of_ble_eq_true rfl) ?_
  intro p e s m below meth c A hAe hsz hx hb hr hlk hin hC hP hD hS ls hl
  clear hAe
  have hts := hC.1.2.2.2.2
  have hown : s.vm.findClass RX4 = some m.cls := hC.1.2.2.2.1
  have hml := hC.1.2.2.1
  have hA := hC.2.1
  have hK := hC.2.2.2.1
  have hnm := hC.2.2.2.2.1
  have hnf := hC.2.2.2.2.2.1
  have hiX4 : ∀ w ∈ u_ws RX4 TX4 18, w ∈ wsX4_goes := fun _ h => List.mem_cons_of_mem _ (List.mem_append_right _ h)
  have hl : lv_has ls 4 [(0, .ref (u 0)), (1, .int b1), (2, .int b2), (3, .int b3)] := hl
  have fin : ∀ k9 : Nat, cdR P1 P2 P3 k9 → W p l e (rmk 0 0 0) s m [.ref (u 0), .int b1, .int b2, .int b3].toArray below meth c s.heap [] 0 0 (MQ below (va_Qi (fun (r : Int32) (w1 : va_W) => ∃ k, cdR P1 P2 P3 k ∧ bz (k = 0) r ∧ WM cI cF u n ev (nI k) R x w1) (fun w1 t => va_P D vwCl w1 t.heap) A) [.ref (u 0), .int b1, .int b2, .int b3].toArray s 0 0 A) (F0 m 26 ls [.int (nI k9), .ref (u 0)]) := by
    intro k9 hk9
    refine va_put (D := D) (ci := 4) (v := .int (nI k9)) (ty := .int) (C := RX4) (T := TX4) (N := 18) hx hb hts hiX4 tyX4 tyX4_ok nmX4 hown hK hP hD hS 0 rfl rfl 0 (by decide) (hts (.fieldLink RX4 48 "StateKeeperModel" "thrown" "I") (List.mem_of_getElem? (i := 1) rfl)) (fun _ h9 => h9) rfl (by decide +kernel) rfl rfl (Nat.le_of_ble_eq_true rfl) dX4_goes_26 (fun H locs hP hD hS => ?_)
    have hP : va_P D vwCl ([((u 0), .inr (4, [.int (nI k9), .int (nI n), .ref (u 1), .int (nI (sT x)), .int (nI ev), .int (sd x), .int (nI R.length), .ref (u 2), .ref (u 3), .ref (u 4), .int (nI ((sL x).length)), .ref (u 5), .ref (u 6), .ref (u 7), .ref (u 8), .int (nI ((sS x).length)), .ref (u 9), .ref (u 10)])), ((u 1), .inl (cF, 256, .inr (.inr (.inl (sc x))))), ((u 2), .inl (cI, 64, .inl r1)), ((u 3), .inl (cI, 64, .inl r2)), ((u 4), .inl (cF, 64, .inr (.inr (.inl r3)))), ((u 5), .inl (cI, 512, .inl f1)), ((u 6), .inl (cI, 512, .inl f2)), ((u 7), .inl (cI, 512, .inl f3)), ((u 8), .inl (cF, 512, .inr (.inr (.inl f4)))), ((u 9), .inl (cI, 16, .inl k1)), ((u 10), .inl (cF, 4096, .inr (.inr (.inl kc))))]) H := hP
    have hD : va_D A ([((u 0), .inr (4, [.int (nI k9), .int (nI n), .ref (u 1), .int (nI (sT x)), .int (nI ev), .int (sd x), .int (nI R.length), .ref (u 2), .ref (u 3), .ref (u 4), .int (nI ((sL x).length)), .ref (u 5), .ref (u 6), .ref (u 7), .ref (u 8), .int (nI ((sS x).length)), .ref (u 9), .ref (u 10)])), ((u 1), .inl (cF, 256, .inr (.inr (.inl (sc x))))), ((u 2), .inl (cI, 64, .inl r1)), ((u 3), .inl (cI, 64, .inl r2)), ((u 4), .inl (cF, 64, .inr (.inr (.inl r3)))), ((u 5), .inl (cI, 512, .inl f1)), ((u 6), .inl (cI, 512, .inl f2)), ((u 7), .inl (cI, 512, .inl f3)), ((u 8), .inl (cF, 512, .inr (.inr (.inl f4)))), ((u 9), .inl (cI, 16, .inl k1)), ((u 10), .inl (cF, 4096, .inr (.inr (.inl kc))))]) := hD
    refine lv_aload_n hx hb dX4_goes_29 rfl (lv_at hl 0 rfl) ?_
    refine va_get (D := D) (ci := 4) (v := .int (nI k9)) (C := RX4) (T := TX4) (N := 18) hx hb hts hiX4 hown hK hP 0 rfl rfl 0 (by decide) (hts (.fieldLink RX4 48 "StateKeeperModel" "thrown" "I") (List.mem_of_getElem? (i := 1) rfl)) (fun _ h9 => h9) rfl dX4_goes_30 ?_
    refine lv_if_ne (tgt := 40) hx hb dX4_goes_33 (by decide) (fun c_1 => ?_) (fun c_1 => ?_)
    · refine lv_iconst (v := nI 0) hx hb dX4_goes_40 (by decide) ?_
      exact W.zret hx hb hr (by first | rfl | decide) (fun t9 ht9 _ => ⟨⟨_, [((u 0), .inr (4, [.int (nI k9), .int (nI n), .ref (u 1), .int (nI (sT x)), .int (nI ev), .int (sd x), .int (nI R.length), .ref (u 2), .ref (u 3), .ref (u 4), .int (nI ((sL x).length)), .ref (u 5), .ref (u 6), .ref (u 7), .ref (u 8), .int (nI ((sS x).length)), .ref (u 9), .ref (u 10)])), ((u 1), .inl (cF, 256, .inr (.inr (.inl (sc x))))), ((u 2), .inl (cI, 64, .inl r1)), ((u 3), .inl (cI, 64, .inl r2)), ((u 4), .inl (cF, 64, .inr (.inr (.inl r3)))), ((u 5), .inl (cI, 512, .inl f1)), ((u 6), .inl (cI, 512, .inl f2)), ((u 7), .inl (cI, 512, .inl f3)), ((u 8), .inl (cF, 512, .inr (.inr (.inl f4)))), ((u 9), .inl (cI, 16, .inl k1)), ((u 10), .inl (cF, 4096, .inr (.inr (.inl kc))))], rfl, ⟨k9, hk9, Or.inr ⟨fun q => c_1 (by rw [q]; rfl), rfl⟩, _, _, _, _, _, _, _, _, _, hdr, hrec, hks, rfl⟩, by show va_P D vwCl _ t9.heap; rw [ht9]; exact hP⟩, hS.F ht9⟩) hS.2.2 dX4_goes_41
    · have hk0 : k9 = 0 := (iz_ne0 (by have := cdR_lt hk9; omega)).mp c_1
      refine lv_iconst (v := nI 1) hx hb dX4_goes_36 (by decide) ?_
      refine lv_goto (tgt := 41) hx hb dX4_goes_37 (by decide) ?_
      exact W.zret hx hb hr (by first | rfl | decide) (fun t9 ht9 _ => ⟨⟨_, [((u 0), .inr (4, [.int (nI k9), .int (nI n), .ref (u 1), .int (nI (sT x)), .int (nI ev), .int (sd x), .int (nI R.length), .ref (u 2), .ref (u 3), .ref (u 4), .int (nI ((sL x).length)), .ref (u 5), .ref (u 6), .ref (u 7), .ref (u 8), .int (nI ((sS x).length)), .ref (u 9), .ref (u 10)])), ((u 1), .inl (cF, 256, .inr (.inr (.inl (sc x))))), ((u 2), .inl (cI, 64, .inl r1)), ((u 3), .inl (cI, 64, .inl r2)), ((u 4), .inl (cF, 64, .inr (.inr (.inl r3)))), ((u 5), .inl (cI, 512, .inl f1)), ((u 6), .inl (cI, 512, .inl f2)), ((u 7), .inl (cI, 512, .inl f3)), ((u 8), .inl (cF, 512, .inr (.inr (.inl f4)))), ((u 9), .inl (cI, 16, .inl k1)), ((u 10), .inl (cF, 4096, .inr (.inr (.inl kc))))], rfl, ⟨k9, hk9, Or.inl ⟨hk0, rfl⟩, _, _, _, _, _, _, _, _, _, hdr, hrec, hks, rfl⟩, by show va_P D vwCl _ t9.heap; rw [ht9]; exact hP⟩, hS.F ht9⟩) hS.2.2 dX4_goes_41
  refine lv_aload_n hx hb dX4_goes_0 rfl (lv_at hl 0 rfl) ?_
  refine lv_iload_n hx hb dX4_goes_1 rfl (lv_at hl 1 rfl) ?_
  refine lv_if_ne (tgt := 9) hx hb dX4_goes_2 (by decide) (fun c_2 => ?_) (fun c_2 => ?_)
  · have hp := bz_1 h1 c_2
    refine lv_iload_n hx hb dX4_goes_9 rfl (lv_at hl 2 rfl) ?_
    refine lv_if_ne (tgt := 17) hx hb dX4_goes_10 (by decide) (fun c_3 => ?_) (fun c_3 => ?_)
    · have hq := bz_1 h2 c_3
      refine lv_iload_n hx hb dX4_goes_17 rfl (lv_at hl 3 rfl) ?_
      refine lv_if_ne (tgt := 25) hx hb dX4_goes_18 (by decide) (fun c_4 => ?_) (fun c_4 => ?_)
      · have ht := bz_1 h3 c_4
        refine lv_iconst (v := nI 0) hx hb dX4_goes_25 (by decide) ?_
        exact fin 0 (Or.inl ⟨hp, hq, ht, rfl⟩)
      · have ht := bz_0 h3 c_4
        refine lv_iconst (v := nI 3) hx hb dX4_goes_21 (by decide) ?_
        refine lv_goto (tgt := 26) hx hb dX4_goes_22 (by decide) ?_
        exact fin 3 (Or.inr (Or.inr (Or.inr ⟨hp, hq, ht, rfl⟩)))
    · have hq := bz_0 h2 c_3
      refine lv_iconst (v := nI 2) hx hb dX4_goes_13 (by decide) ?_
      refine lv_goto (tgt := 26) hx hb dX4_goes_14 (by decide) ?_
      exact fin 2 (Or.inr (Or.inr (Or.inl ⟨hp, hq, rfl⟩)))
  · have hp := bz_0 h1 c_2
    refine lv_iconst (v := nI 1) hx hb dX4_goes_5 (by decide) ?_
    refine lv_goto (tgt := 26) hx hb dX4_goes_6 (by decide) ?_
    exact fin 1 (Or.inr (Or.inl ⟨hp, rfl⟩))

set_option maxRecDepth 100000 in
set_option maxHeartbeats 4000000 in
/-- inputsOf(step) -/
theorem c_X4_inputsOf {z : Int32} (hL : rIn n (sL x)) (hw : WM cI cF u n ev th R x w) : Met l yX4_inputsOf wsX4_inputsOf (rmk 0 0 0) (pcW l D cI cF cQ aT [.ref (u 0), .int z] w sz) (vp_Si (fun r => r = nI (cq (sL x) z.toInt))) 0 0 (fun _ => False) := by
  obtain ⟨r1, r2, r3, f1, f2, f3, f4, k1, kc, hdr, hrec, hks, rfl⟩ := id hw
  refine lz_ofR (cc := cX4_inputsOf) (maxL := 4) (ret := (some .int)) (by decide) rfl (Nat.le_of_ble_eq_true rfl) ?_
  intro p e s m below meth c A hx hb hr hlk hC hP hD hS ls hl
  have hts := hC.1.2.2.2.2
  have hown : s.vm.findClass RX4 = some m.cls := hC.1.2.2.2.1
  have hml := hC.1.2.2.1
  have hA := hC.2.1
  have hK := hC.2.2.2.1
  have hnm := hC.2.2.2.2.1
  have hnf := hC.2.2.2.2.2.1
  have hiX4 : ∀ w ∈ u_ws RX4 TX4 18, w ∈ wsX4_inputsOf := fun _ h => List.mem_cons_of_mem _ (List.mem_append_right _ h)
  have hl : lv_has ls 4 [(0, .ref (u 0)), (1, .int z)] := hl
  have hL8 := hL.1
  refine lv_iconst (v := nI 0) hx hb dX4_inputsOf_0 (by decide) ?_
  refine lv_istore_n (lv' := [(2, .int (nI 0)), (0, .ref (u 0)), (1, .int z)]) hx hb dX4_inputsOf_1 rfl hl (by decide) rfl (fun ls hl => ?_)
  refine lv_iconst (v := nI 0) hx hb dX4_inputsOf_2 (by decide) ?_
  refine lv_istore_n (lv' := [(3, .int (nI 0)), (2, .int (nI 0)), (0, .ref (u 0)), (1, .int z)]) hx hb dX4_inputsOf_3 rfl hl (by decide) rfl (fun ls hl => ?_)
  have loop : ∀ (r i : Nat), r + i = (sL x).length → ∀ (ls : Array Slot), lv_has ls 4 [(3, .int (nI i)), (2, .int (nI (cq ((sL x).take i) z.toInt))), (0, .ref (u 0)), (1, .int z)] → W p l e (rmk 0 0 0) s m [.ref (u 0), .int z].toArray below meth c s.heap [] 0 0 (MQ below (vp_Si (fun r => r = nI (cq (sL x) z.toInt))) [.ref (u 0), .int z].toArray s 0 0 (fun _ => False)) (F0 m 4 ls []) := by
    intro r
    induction r with
    | zero =>
      intro i h1  ls hl
      have hl : lv_has ls 4 [(3, .int (nI i)), (2, .int (nI (cq ((sL x).take i) z.toInt))), (0, .ref (u 0)), (1, .int z)] := hl
      refine lv_iload_n hx hb dX4_inputsOf_4 rfl (lv_at hl 0 rfl) ?_
      refine lv_aload_n hx hb dX4_inputsOf_5 rfl (lv_at hl 2 rfl) ?_
      refine va_get (D := D) (ci := 4) (v := .int (nI ((sL x).length))) (C := RX4) (T := TX4) (N := 18) hx hb hts hiX4 hown hK hP 0 rfl rfl 10 (by decide) (hts (.fieldLink RX4 65 "StateKeeperModel" "inputs" "I") (List.mem_of_getElem? (i := 1) rfl)) (fun _ h9 => h9) rfl dX4_inputsOf_6 ?_
      refine lv_icmp_ge (tgt := 36) hx hb dX4_inputsOf_9 (by decide) (fun c_1 => ?_) (fun c_1 => absurd (nI_le (by omega) (by omega)) c_1)
      refine lv_iload_n hx hb dX4_inputsOf_36 rfl (lv_at hl 1 rfl) ?_
      have hi2 : i = (sL x).length := by omega
      exact W.iret hx hb hr (fun t9 ht9 _ => ⟨_, rfl, by rw [hi2, List.take_length], ht9⟩) (fun _ h => nomatch h) dX4_inputsOf_37
    | succ r ih =>
      intro i h1  ls hl
      have hl : lv_has ls 4 [(3, .int (nI i)), (2, .int (nI (cq ((sL x).take i) z.toInt))), (0, .ref (u 0)), (1, .int z)] := hl
      obtain ⟨e9, he⟩ : ∃ e9, (sL x)[i]? = some e9 := ⟨_, List.getElem?_eq_getElem (by omega)⟩
      have hin9 := hL.2 e9 (List.mem_of_getElem? he)
      have hcs : cq ((sL x).take (i + 1)) z.toInt = cq ((sL x).take i) z.toInt + if (e9.1 : Int) = z.toInt then 1 else 0 := by rw [take_s he, cq_app, cq_1]
      refine lv_iload_n hx hb dX4_inputsOf_4 rfl (lv_at hl 0 rfl) ?_
      refine lv_aload_n hx hb dX4_inputsOf_5 rfl (lv_at hl 2 rfl) ?_
      refine va_get (D := D) (ci := 4) (v := .int (nI ((sL x).length))) (C := RX4) (T := TX4) (N := 18) hx hb hts hiX4 hown hK hP 0 rfl rfl 10 (by decide) (hts (.fieldLink RX4 65 "StateKeeperModel" "inputs" "I") (List.mem_of_getElem? (i := 1) rfl)) (fun _ h9 => h9) rfl dX4_inputsOf_6 ?_
      refine lv_icmp_ge (tgt := 36) hx hb dX4_inputsOf_9 (by decide) (fun c1 => absurd c1 (nI_ge (by omega) (by omega))) (fun c1 => ?_)
      refine lv_aload_n hx hb dX4_inputsOf_12 rfl (lv_at hl 2 rfl) ?_
      refine va_get (D := D) (ci := 4) (v := .ref (u 5)) (C := RX4) (T := TX4) (N := 18) hx hb hts hiX4 hown hK hP 0 rfl rfl 11 (by decide) (hts (.fieldLink RX4 23 "StateKeeperModel" "steps" "[I") (List.mem_of_getElem? (i := 2) rfl)) (fun _ h9 => h9) rfl dX4_inputsOf_13 ?_
      refine lv_iload_n hx hb dX4_inputsOf_16 rfl (lv_at hl 0 rfl) ?_
      refine lz_iald hx hb hK hP 5 1 rfl rfl (by omega) (by omega) dX4_inputsOf_17 ?_
      refine lz_i (y := nI e9.1) (hrec i e9 he).1 ?_
      refine lv_iload_n hx hb dX4_inputsOf_18 rfl (lv_at hl 3 rfl) ?_
      refine lv_icmp_ne (tgt := 28) hx hb dX4_inputsOf_19 (by decide) (fun c_2 => ?_) (fun c_2 => ?_)
      · rw [if_neg (fun q => c_2 ((iz_eq (by omega)).mpr q))] at hcs
        refine lv_iload_n hx hb dX4_inputsOf_28 rfl (lv_at hl 1 rfl) ?_
        refine lv_istore_n (lv' := [(2, .int (nI (cq ((sL x).take i) z.toInt))), (3, .int (nI i)), (0, .ref (u 0)), (1, .int z)]) hx hb dX4_inputsOf_29 rfl hl (by decide) rfl (fun ls hl => ?_)
        refine lv_iinc (v := nI (i + 1)) (lv' := [(3, .int (nI (i + 1))), (2, .int (nI (cq ((sL x).take i) z.toInt))), (0, .ref (u 0)), (1, .int z)]) hx hb dX4_inputsOf_30 hl (k := 1) rfl (nI_add _ 1) (by decide) rfl (fun ls hl => ?_)
        refine lv_goto (tgt := 4) hx hb dX4_inputsOf_33 (by decide) ?_
        exact ih (i + 1) (by omega) ls (by rw [hcs]; exact lv_sub hl [0, 1, 2, 3] rfl)
      · rw [if_pos ((iz_eq (by omega)).mp c_2)] at hcs
        refine lv_iload_n hx hb dX4_inputsOf_22 rfl (lv_at hl 1 rfl) ?_
        refine lv_iconst (v := nI 1) hx hb dX4_inputsOf_23 (by decide) ?_
        refine lv_iadd hx hb dX4_inputsOf_24 ?_
        refine lz_i (nI_add _ _) ?_
        refine lv_goto (tgt := 29) hx hb dX4_inputsOf_25 (by decide) ?_
        refine lv_istore_n (lv' := [(2, .int (nI ((cq ((sL x).take i) z.toInt) + 1))), (3, .int (nI i)), (0, .ref (u 0)), (1, .int z)]) hx hb dX4_inputsOf_29 rfl hl (by decide) rfl (fun ls hl => ?_)
        refine lv_iinc (v := nI (i + 1)) (lv' := [(3, .int (nI (i + 1))), (2, .int (nI ((cq ((sL x).take i) z.toInt) + 1))), (0, .ref (u 0)), (1, .int z)]) hx hb dX4_inputsOf_30 hl (k := 1) rfl (nI_add _ 1) (by decide) rfl (fun ls hl => ?_)
        refine lv_goto (tgt := 4) hx hb dX4_inputsOf_33 (by decide) ?_
        exact ih (i + 1) (by omega) ls (by rw [hcs]; exact lv_sub hl [0, 1, 2, 3] rfl)
  exact loop (sL x).length 0 (by omega) ls hl

set_option maxRecDepth 100000 in
set_option maxHeartbeats 4000000 in
/-- put(step, cell, way, v) -/
theorem c_X4_put {t a q : Nat} {v : UInt32} (hlt : (sL x).length < 512) (hw : WM cI cF u n ev th R x w) : Met l yX4_put wsX4_put (rmk 0 0 0) (pcW l D cI cF cQ aT [.ref (u 0), .int (nI t), .int (nI a), .int (nI q), .float v] w sz) (va_Qv (fun (w1 : va_W) => WM cI cF u n ev th R (stL x (sL x ++ [(t, a, q, v)])) w1) (fun w1 t => va_P D vwCl w1 t.heap) (va_A w sz)) 0 0 (va_A w sz) := by
  obtain ⟨r1, r2, r3, f1, f2, f3, f4, k1, kc, hdr, hrec, hks, rfl⟩ := id hw
  refine lz_ofM (Qf := fun A => va_Qv (fun (w1 : va_W) => WM cI cF u n ev th R (stL x (sL x ++ [(t, a, q, v)])) w1) (fun w1 t => va_P D vwCl w1 t.heap) A) (cc := cX4_put) (maxL := 5) (ret := none) (by decide) rfl (Nat.le_of_ble_eq_true rfl) ?_
  intro p e s m below meth c A hAe hsz hx hb hr hlk hin hC hP hD hS ls hl
  clear hAe
  have hts := hC.1.2.2.2.2
  have hown : s.vm.findClass RX4 = some m.cls := hC.1.2.2.2.1
  have hml := hC.1.2.2.1
  have hA := hC.2.1
  have hK := hC.2.2.2.1
  have hnm := hC.2.2.2.2.1
  have hnf := hC.2.2.2.2.2.1
  have hiX4 : ∀ w ∈ u_ws RX4 TX4 18, w ∈ wsX4_put := fun _ h => List.mem_cons_of_mem _ (List.mem_append_right _ h)
  have hl : lv_has ls 5 [(0, .ref (u 0)), (1, .int (nI t)), (2, .int (nI a)), (3, .int (nI q)), (4, .float v)] := hl
  refine lv_aload_n hx hb dX4_put_0 rfl (lv_at hl 0 rfl) ?_
  refine va_get (D := D) (ci := 4) (v := .ref (u 5)) (C := RX4) (T := TX4) (N := 18) hx hb hts hiX4 hown hK hP 0 rfl rfl 11 (by decide) (hts (.fieldLink RX4 23 "StateKeeperModel" "steps" "[I") (List.mem_of_getElem? (i := 1) rfl)) (fun _ h9 => h9) rfl dX4_put_1 ?_
  refine lv_aload_n hx hb dX4_put_4 rfl (lv_at hl 0 rfl) ?_
  refine va_get (D := D) (ci := 4) (v := .int (nI ((sL x).length))) (C := RX4) (T := TX4) (N := 18) hx hb hts hiX4 hown hK hP 0 rfl rfl 10 (by decide) (hts (.fieldLink RX4 65 "StateKeeperModel" "inputs" "I") (List.mem_of_getElem? (i := 2) rfl)) (fun _ h9 => h9) rfl dX4_put_5 ?_
  refine lv_iload_n hx hb dX4_put_8 rfl (lv_at hl 1 rfl) ?_
  refine lz_iast hx hb hK hP hD hS 5 1 rfl rfl (by omega) (by omega) dX4_put_9 (fun H locs hP hD hS => ?_)
  have hP : va_P D vwCl ([((u 0), .inr (4, [.int th, .int (nI n), .ref (u 1), .int (nI (sT x)), .int (nI ev), .int (sd x), .int (nI R.length), .ref (u 2), .ref (u 3), .ref (u 4), .int (nI ((sL x).length)), .ref (u 5), .ref (u 6), .ref (u 7), .ref (u 8), .int (nI ((sS x).length)), .ref (u 9), .ref (u 10)])), ((u 1), .inl (cF, 256, .inr (.inr (.inl (sc x))))), ((u 2), .inl (cI, 64, .inl r1)), ((u 3), .inl (cI, 64, .inl r2)), ((u 4), .inl (cF, 64, .inr (.inr (.inl r3)))), ((u 5), .inl (cI, 512, .inl (upd f1 ((sL x).length) (nI t)))), ((u 6), .inl (cI, 512, .inl f2)), ((u 7), .inl (cI, 512, .inl f3)), ((u 8), .inl (cF, 512, .inr (.inr (.inl f4)))), ((u 9), .inl (cI, 16, .inl k1)), ((u 10), .inl (cF, 4096, .inr (.inr (.inl kc))))]) H := hP
  have hD : va_D A ([((u 0), .inr (4, [.int th, .int (nI n), .ref (u 1), .int (nI (sT x)), .int (nI ev), .int (sd x), .int (nI R.length), .ref (u 2), .ref (u 3), .ref (u 4), .int (nI ((sL x).length)), .ref (u 5), .ref (u 6), .ref (u 7), .ref (u 8), .int (nI ((sS x).length)), .ref (u 9), .ref (u 10)])), ((u 1), .inl (cF, 256, .inr (.inr (.inl (sc x))))), ((u 2), .inl (cI, 64, .inl r1)), ((u 3), .inl (cI, 64, .inl r2)), ((u 4), .inl (cF, 64, .inr (.inr (.inl r3)))), ((u 5), .inl (cI, 512, .inl (upd f1 ((sL x).length) (nI t)))), ((u 6), .inl (cI, 512, .inl f2)), ((u 7), .inl (cI, 512, .inl f3)), ((u 8), .inl (cF, 512, .inr (.inr (.inl f4)))), ((u 9), .inl (cI, 16, .inl k1)), ((u 10), .inl (cF, 4096, .inr (.inr (.inl kc))))]) := hD
  refine lv_aload_n hx hb dX4_put_10 rfl (lv_at hl 0 rfl) ?_
  refine va_get (D := D) (ci := 4) (v := .ref (u 6)) (C := RX4) (T := TX4) (N := 18) hx hb hts hiX4 hown hK hP 0 rfl rfl 12 (by decide) (hts (.fieldLink RX4 26 "StateKeeperModel" "which" "[I") (List.mem_of_getElem? (i := 3) rfl)) (fun _ h9 => h9) rfl dX4_put_11 ?_
  refine lv_aload_n hx hb dX4_put_14 rfl (lv_at hl 0 rfl) ?_
  refine va_get (D := D) (ci := 4) (v := .int (nI ((sL x).length))) (C := RX4) (T := TX4) (N := 18) hx hb hts hiX4 hown hK hP 0 rfl rfl 10 (by decide) (hts (.fieldLink RX4 65 "StateKeeperModel" "inputs" "I") (List.mem_of_getElem? (i := 2) rfl)) (fun _ h9 => h9) rfl dX4_put_15 ?_
  refine lv_iload_n hx hb dX4_put_18 rfl (lv_at hl 2 rfl) ?_
  refine lz_iast hx hb hK hP hD hS 6 1 rfl rfl (by omega) (by omega) dX4_put_19 (fun H locs hP hD hS => ?_)
  have hP : va_P D vwCl ([((u 0), .inr (4, [.int th, .int (nI n), .ref (u 1), .int (nI (sT x)), .int (nI ev), .int (sd x), .int (nI R.length), .ref (u 2), .ref (u 3), .ref (u 4), .int (nI ((sL x).length)), .ref (u 5), .ref (u 6), .ref (u 7), .ref (u 8), .int (nI ((sS x).length)), .ref (u 9), .ref (u 10)])), ((u 1), .inl (cF, 256, .inr (.inr (.inl (sc x))))), ((u 2), .inl (cI, 64, .inl r1)), ((u 3), .inl (cI, 64, .inl r2)), ((u 4), .inl (cF, 64, .inr (.inr (.inl r3)))), ((u 5), .inl (cI, 512, .inl (upd f1 ((sL x).length) (nI t)))), ((u 6), .inl (cI, 512, .inl (upd f2 ((sL x).length) (nI a)))), ((u 7), .inl (cI, 512, .inl f3)), ((u 8), .inl (cF, 512, .inr (.inr (.inl f4)))), ((u 9), .inl (cI, 16, .inl k1)), ((u 10), .inl (cF, 4096, .inr (.inr (.inl kc))))]) H := hP
  have hD : va_D A ([((u 0), .inr (4, [.int th, .int (nI n), .ref (u 1), .int (nI (sT x)), .int (nI ev), .int (sd x), .int (nI R.length), .ref (u 2), .ref (u 3), .ref (u 4), .int (nI ((sL x).length)), .ref (u 5), .ref (u 6), .ref (u 7), .ref (u 8), .int (nI ((sS x).length)), .ref (u 9), .ref (u 10)])), ((u 1), .inl (cF, 256, .inr (.inr (.inl (sc x))))), ((u 2), .inl (cI, 64, .inl r1)), ((u 3), .inl (cI, 64, .inl r2)), ((u 4), .inl (cF, 64, .inr (.inr (.inl r3)))), ((u 5), .inl (cI, 512, .inl (upd f1 ((sL x).length) (nI t)))), ((u 6), .inl (cI, 512, .inl (upd f2 ((sL x).length) (nI a)))), ((u 7), .inl (cI, 512, .inl f3)), ((u 8), .inl (cF, 512, .inr (.inr (.inl f4)))), ((u 9), .inl (cI, 16, .inl k1)), ((u 10), .inl (cF, 4096, .inr (.inr (.inl kc))))]) := hD
  refine lv_aload_n hx hb dX4_put_20 rfl (lv_at hl 0 rfl) ?_
  refine va_get (D := D) (ci := 4) (v := .ref (u 7)) (C := RX4) (T := TX4) (N := 18) hx hb hts hiX4 hown hK hP 0 rfl rfl 13 (by decide) (hts (.fieldLink RX4 29 "StateKeeperModel" "ways" "[I") (List.mem_of_getElem? (i := 4) rfl)) (fun _ h9 => h9) rfl dX4_put_21 ?_
  refine lv_aload_n hx hb dX4_put_24 rfl (lv_at hl 0 rfl) ?_
  refine va_get (D := D) (ci := 4) (v := .int (nI ((sL x).length))) (C := RX4) (T := TX4) (N := 18) hx hb hts hiX4 hown hK hP 0 rfl rfl 10 (by decide) (hts (.fieldLink RX4 65 "StateKeeperModel" "inputs" "I") (List.mem_of_getElem? (i := 2) rfl)) (fun _ h9 => h9) rfl dX4_put_25 ?_
  refine lv_iload_n hx hb dX4_put_28 rfl (lv_at hl 3 rfl) ?_
  refine lz_iast hx hb hK hP hD hS 7 1 rfl rfl (by omega) (by omega) dX4_put_29 (fun H locs hP hD hS => ?_)
  have hP : va_P D vwCl ([((u 0), .inr (4, [.int th, .int (nI n), .ref (u 1), .int (nI (sT x)), .int (nI ev), .int (sd x), .int (nI R.length), .ref (u 2), .ref (u 3), .ref (u 4), .int (nI ((sL x).length)), .ref (u 5), .ref (u 6), .ref (u 7), .ref (u 8), .int (nI ((sS x).length)), .ref (u 9), .ref (u 10)])), ((u 1), .inl (cF, 256, .inr (.inr (.inl (sc x))))), ((u 2), .inl (cI, 64, .inl r1)), ((u 3), .inl (cI, 64, .inl r2)), ((u 4), .inl (cF, 64, .inr (.inr (.inl r3)))), ((u 5), .inl (cI, 512, .inl (upd f1 ((sL x).length) (nI t)))), ((u 6), .inl (cI, 512, .inl (upd f2 ((sL x).length) (nI a)))), ((u 7), .inl (cI, 512, .inl (upd f3 ((sL x).length) (nI q)))), ((u 8), .inl (cF, 512, .inr (.inr (.inl f4)))), ((u 9), .inl (cI, 16, .inl k1)), ((u 10), .inl (cF, 4096, .inr (.inr (.inl kc))))]) H := hP
  have hD : va_D A ([((u 0), .inr (4, [.int th, .int (nI n), .ref (u 1), .int (nI (sT x)), .int (nI ev), .int (sd x), .int (nI R.length), .ref (u 2), .ref (u 3), .ref (u 4), .int (nI ((sL x).length)), .ref (u 5), .ref (u 6), .ref (u 7), .ref (u 8), .int (nI ((sS x).length)), .ref (u 9), .ref (u 10)])), ((u 1), .inl (cF, 256, .inr (.inr (.inl (sc x))))), ((u 2), .inl (cI, 64, .inl r1)), ((u 3), .inl (cI, 64, .inl r2)), ((u 4), .inl (cF, 64, .inr (.inr (.inl r3)))), ((u 5), .inl (cI, 512, .inl (upd f1 ((sL x).length) (nI t)))), ((u 6), .inl (cI, 512, .inl (upd f2 ((sL x).length) (nI a)))), ((u 7), .inl (cI, 512, .inl (upd f3 ((sL x).length) (nI q)))), ((u 8), .inl (cF, 512, .inr (.inr (.inl f4)))), ((u 9), .inl (cI, 16, .inl k1)), ((u 10), .inl (cF, 4096, .inr (.inr (.inl kc))))]) := hD
  refine lv_aload_n hx hb dX4_put_30 rfl (lv_at hl 0 rfl) ?_
  refine va_get (D := D) (ci := 4) (v := .ref (u 8)) (C := RX4) (T := TX4) (N := 18) hx hb hts hiX4 hown hK hP 0 rfl rfl 14 (by decide) (hts (.fieldLink RX4 32 "StateKeeperModel" "values" "[F") (List.mem_of_getElem? (i := 5) rfl)) (fun _ h9 => h9) rfl dX4_put_31 ?_
  refine lv_aload_n hx hb dX4_put_34 rfl (lv_at hl 0 rfl) ?_
  refine va_get (D := D) (ci := 4) (v := .int (nI ((sL x).length))) (C := RX4) (T := TX4) (N := 18) hx hb hts hiX4 hown hK hP 0 rfl rfl 10 (by decide) (hts (.fieldLink RX4 65 "StateKeeperModel" "inputs" "I") (List.mem_of_getElem? (i := 2) rfl)) (fun _ h9 => h9) rfl dX4_put_35 ?_
  refine lv_fload hx hb dX4_put_38 (lv_at hl 4 rfl) ?_
  refine lz_fast hx hb hK hP hD hS 8 0 rfl rfl (by omega) (by omega) dX4_put_40 (fun H locs hP hD hS => ?_)
  have hP : va_P D vwCl ([((u 0), .inr (4, [.int th, .int (nI n), .ref (u 1), .int (nI (sT x)), .int (nI ev), .int (sd x), .int (nI R.length), .ref (u 2), .ref (u 3), .ref (u 4), .int (nI ((sL x).length)), .ref (u 5), .ref (u 6), .ref (u 7), .ref (u 8), .int (nI ((sS x).length)), .ref (u 9), .ref (u 10)])), ((u 1), .inl (cF, 256, .inr (.inr (.inl (sc x))))), ((u 2), .inl (cI, 64, .inl r1)), ((u 3), .inl (cI, 64, .inl r2)), ((u 4), .inl (cF, 64, .inr (.inr (.inl r3)))), ((u 5), .inl (cI, 512, .inl (upd f1 ((sL x).length) (nI t)))), ((u 6), .inl (cI, 512, .inl (upd f2 ((sL x).length) (nI a)))), ((u 7), .inl (cI, 512, .inl (upd f3 ((sL x).length) (nI q)))), ((u 8), .inl (cF, 512, .inr (.inr (.inl (vf_upd f4 ((sL x).length) v))))), ((u 9), .inl (cI, 16, .inl k1)), ((u 10), .inl (cF, 4096, .inr (.inr (.inl kc))))]) H := hP
  have hD : va_D A ([((u 0), .inr (4, [.int th, .int (nI n), .ref (u 1), .int (nI (sT x)), .int (nI ev), .int (sd x), .int (nI R.length), .ref (u 2), .ref (u 3), .ref (u 4), .int (nI ((sL x).length)), .ref (u 5), .ref (u 6), .ref (u 7), .ref (u 8), .int (nI ((sS x).length)), .ref (u 9), .ref (u 10)])), ((u 1), .inl (cF, 256, .inr (.inr (.inl (sc x))))), ((u 2), .inl (cI, 64, .inl r1)), ((u 3), .inl (cI, 64, .inl r2)), ((u 4), .inl (cF, 64, .inr (.inr (.inl r3)))), ((u 5), .inl (cI, 512, .inl (upd f1 ((sL x).length) (nI t)))), ((u 6), .inl (cI, 512, .inl (upd f2 ((sL x).length) (nI a)))), ((u 7), .inl (cI, 512, .inl (upd f3 ((sL x).length) (nI q)))), ((u 8), .inl (cF, 512, .inr (.inr (.inl (vf_upd f4 ((sL x).length) v))))), ((u 9), .inl (cI, 16, .inl k1)), ((u 10), .inl (cF, 4096, .inr (.inr (.inl kc))))]) := hD
  refine lv_aload_n hx hb dX4_put_41 rfl (lv_at hl 0 rfl) ?_
  refine lv_dup hx hb dX4_put_42 rfl ?_
  refine va_get (D := D) (ci := 4) (v := .int (nI ((sL x).length))) (C := RX4) (T := TX4) (N := 18) hx hb hts hiX4 hown hK hP 0 rfl rfl 10 (by decide) (hts (.fieldLink RX4 65 "StateKeeperModel" "inputs" "I") (List.mem_of_getElem? (i := 2) rfl)) (fun _ h9 => h9) rfl dX4_put_43 ?_
  refine lv_iconst (v := nI 1) hx hb dX4_put_46 (by decide) ?_
  refine lv_iadd hx hb dX4_put_47 ?_
  refine lz_i (nI_add _ _) ?_
  refine va_put (D := D) (ci := 4) (v := .int (nI (((sL x).length) + 1))) (ty := .int) (C := RX4) (T := TX4) (N := 18) hx hb hts hiX4 tyX4 tyX4_ok nmX4 hown hK hP hD hS 0 rfl rfl 10 (by decide) (hts (.fieldLink RX4 65 "StateKeeperModel" "inputs" "I") (List.mem_of_getElem? (i := 2) rfl)) (fun _ h9 => h9) rfl (by decide +kernel) rfl rfl (Nat.le_of_ble_eq_true rfl) dX4_put_48 (fun H locs hP hD hS => ?_)
  have hP : va_P D vwCl ([((u 0), .inr (4, [.int th, .int (nI n), .ref (u 1), .int (nI (sT x)), .int (nI ev), .int (sd x), .int (nI R.length), .ref (u 2), .ref (u 3), .ref (u 4), .int (nI (((sL x).length) + 1)), .ref (u 5), .ref (u 6), .ref (u 7), .ref (u 8), .int (nI ((sS x).length)), .ref (u 9), .ref (u 10)])), ((u 1), .inl (cF, 256, .inr (.inr (.inl (sc x))))), ((u 2), .inl (cI, 64, .inl r1)), ((u 3), .inl (cI, 64, .inl r2)), ((u 4), .inl (cF, 64, .inr (.inr (.inl r3)))), ((u 5), .inl (cI, 512, .inl (upd f1 ((sL x).length) (nI t)))), ((u 6), .inl (cI, 512, .inl (upd f2 ((sL x).length) (nI a)))), ((u 7), .inl (cI, 512, .inl (upd f3 ((sL x).length) (nI q)))), ((u 8), .inl (cF, 512, .inr (.inr (.inl (vf_upd f4 ((sL x).length) v))))), ((u 9), .inl (cI, 16, .inl k1)), ((u 10), .inl (cF, 4096, .inr (.inr (.inl kc))))]) H := hP
  have hD : va_D A ([((u 0), .inr (4, [.int th, .int (nI n), .ref (u 1), .int (nI (sT x)), .int (nI ev), .int (sd x), .int (nI R.length), .ref (u 2), .ref (u 3), .ref (u 4), .int (nI (((sL x).length) + 1)), .ref (u 5), .ref (u 6), .ref (u 7), .ref (u 8), .int (nI ((sS x).length)), .ref (u 9), .ref (u 10)])), ((u 1), .inl (cF, 256, .inr (.inr (.inl (sc x))))), ((u 2), .inl (cI, 64, .inl r1)), ((u 3), .inl (cI, 64, .inl r2)), ((u 4), .inl (cF, 64, .inr (.inr (.inl r3)))), ((u 5), .inl (cI, 512, .inl (upd f1 ((sL x).length) (nI t)))), ((u 6), .inl (cI, 512, .inl (upd f2 ((sL x).length) (nI a)))), ((u 7), .inl (cI, 512, .inl (upd f3 ((sL x).length) (nI q)))), ((u 8), .inl (cF, 512, .inr (.inr (.inl (vf_upd f4 ((sL x).length) v))))), ((u 9), .inl (cI, 16, .inl k1)), ((u 10), .inl (cF, 4096, .inr (.inr (.inl kc))))]) := hD
  exact W.vret hx hb hr (fun t9 ht9 _ => ⟨⟨[((u 0), .inr (4, [.int th, .int (nI n), .ref (u 1), .int (nI (sT x)), .int (nI ev), .int (sd x), .int (nI R.length), .ref (u 2), .ref (u 3), .ref (u 4), .int (nI (((sL x).length) + 1)), .ref (u 5), .ref (u 6), .ref (u 7), .ref (u 8), .int (nI ((sS x).length)), .ref (u 9), .ref (u 10)])), ((u 1), .inl (cF, 256, .inr (.inr (.inl (sc x))))), ((u 2), .inl (cI, 64, .inl r1)), ((u 3), .inl (cI, 64, .inl r2)), ((u 4), .inl (cF, 64, .inr (.inr (.inl r3)))), ((u 5), .inl (cI, 512, .inl (upd f1 ((sL x).length) (nI t)))), ((u 6), .inl (cI, 512, .inl (upd f2 ((sL x).length) (nI a)))), ((u 7), .inl (cI, 512, .inl (upd f3 ((sL x).length) (nI q)))), ((u 8), .inl (cF, 512, .inr (.inr (.inl (vf_upd f4 ((sL x).length) v))))), ((u 9), .inl (cI, 16, .inl k1)), ((u 10), .inl (cF, 4096, .inr (.inr (.inl kc))))], rfl, ⟨_, _, _, _, _, _, _, _, _, hdr, recOk_app hrec (t, a, q, v), hks, by rw [show (sL (stL x (sL x ++ [(t, a, q, v)]))).length = (sL x).length + 1 from List.length_append]⟩, by show va_P D vwCl _ t9.heap; rw [ht9]; exact hP⟩, hS.F ht9⟩) hS.2.2 dX4_put_51

set_option maxRecDepth 100000 in
set_option maxHeartbeats 4000000 in
/-- drop(low, high) -/
theorem c_X4_drop {lo hi : Int32} (hL : rIn n (sL x)) (hw : WM cI cF u n ev th R x w) : Met l yX4_drop wsX4_drop (rmk 0 0 0) (pcW l D cI cF cQ aT [.ref (u 0), .int lo, .int hi] w sz) (va_Qi (fun (r : Int32) (w1 : va_W) => r = nI ((sL x).length - ((sL x).filter (fun e => decide (¬ (lo.toInt ≤ (e.1 : Int) ∧ (e.1 : Int) ≤ hi.toInt)))).length) ∧ WM cI cF u n ev th R (stL x ((sL x).filter (fun e => decide (¬ (lo.toInt ≤ (e.1 : Int) ∧ (e.1 : Int) ≤ hi.toInt))))) w1) (fun w1 t => va_P D vwCl w1 t.heap) (va_A w sz)) 0 0 (va_A w sz) := by
  obtain ⟨r1, r2, r3, f1, f2, f3, f4, k1, kc, hdr, hrec, hks, rfl⟩ := id hw
  refine lz_ofM (Qf := fun A => va_Qi (fun (r : Int32) (w1 : va_W) => r = nI ((sL x).length - ((sL x).filter (fun e => decide (¬ (lo.toInt ≤ (e.1 : Int) ∧ (e.1 : Int) ≤ hi.toInt)))).length) ∧ WM cI cF u n ev th R (stL x ((sL x).filter (fun e => decide (¬ (lo.toInt ≤ (e.1 : Int) ∧ (e.1 : Int) ≤ hi.toInt))))) w1) (fun w1 t => va_P D vwCl w1 t.heap) A) (cc := cX4_drop) (maxL := 6) (ret := (some .int)) (by decide) rfl (Nat.le_of_ble_eq_true rfl) ?_
  intro p e s m below meth c A hAe hsz hx hb hr hlk hin hC hP hD hS ls hl
  clear hAe
  have hts := hC.1.2.2.2.2
  have hown : s.vm.findClass RX4 = some m.cls := hC.1.2.2.2.1
  have hml := hC.1.2.2.1
  have hA := hC.2.1
  have hK := hC.2.2.2.1
  have hnm := hC.2.2.2.2.1
  have hnf := hC.2.2.2.2.2.1
  have hiX4 : ∀ w ∈ u_ws RX4 TX4 18, w ∈ wsX4_drop := fun _ h => List.mem_cons_of_mem _ (List.mem_append_right _ h)
  have hl : lv_has ls 6 [(0, .ref (u 0)), (1, .int lo), (2, .int hi)] := hl
  have hL8 := hL.1
  refine lv_iconst (v := nI 0) hx hb dX4_drop_0 (by decide) ?_
  refine lv_istore_n (lv' := [(3, .int (nI 0)), (0, .ref (u 0)), (1, .int lo), (2, .int hi)]) hx hb dX4_drop_1 rfl hl (by decide) rfl (fun ls hl => ?_)
  refine lv_iconst (v := nI 0) hx hb dX4_drop_2 (by decide) ?_
  refine lv_istore (lv' := [(4, .int (nI 0)), (3, .int (nI 0)), (0, .ref (u 0)), (1, .int lo), (2, .int hi)]) hx hb dX4_drop_3 hl (by decide) rfl (fun ls hl => ?_)
  have loop : ∀ (r i : Nat), r + i = (sL x).length → ∀ (g1 g2 g3 : Nat → Int32) (g4 : Nat → UInt32), recOk (((sL x).take i).filter (fun e => decide (¬ (lo.toInt ≤ (e.1 : Int) ∧ (e.1 : Int) ≤ hi.toInt)))) g1 g2 g3 g4 → recFr (sL x) i g1 g2 g3 g4 → ∀ (H : Heap) (locs : List Loc) (ls : Array Slot), va_P D vwCl ([((u 0), .inr (4, [.int th, .int (nI n), .ref (u 1), .int (nI (sT x)), .int (nI ev), .int (sd x), .int (nI R.length), .ref (u 2), .ref (u 3), .ref (u 4), .int (nI ((sL x).length)), .ref (u 5), .ref (u 6), .ref (u 7), .ref (u 8), .int (nI ((sS x).length)), .ref (u 9), .ref (u 10)])), ((u 1), .inl (cF, 256, .inr (.inr (.inl (sc x))))), ((u 2), .inl (cI, 64, .inl r1)), ((u 3), .inl (cI, 64, .inl r2)), ((u 4), .inl (cF, 64, .inr (.inr (.inl r3)))), ((u 5), .inl (cI, 512, .inl g1)), ((u 6), .inl (cI, 512, .inl g2)), ((u 7), .inl (cI, 512, .inl g3)), ((u 8), .inl (cF, 512, .inr (.inr (.inl g4)))), ((u 9), .inl (cI, 16, .inl k1)), ((u 10), .inl (cF, 4096, .inr (.inr (.inl kc))))]) H → va_D A ([((u 0), .inr (4, [.int th, .int (nI n), .ref (u 1), .int (nI (sT x)), .int (nI ev), .int (sd x), .int (nI R.length), .ref (u 2), .ref (u 3), .ref (u 4), .int (nI ((sL x).length)), .ref (u 5), .ref (u 6), .ref (u 7), .ref (u 8), .int (nI ((sS x).length)), .ref (u 9), .ref (u 10)])), ((u 1), .inl (cF, 256, .inr (.inr (.inl (sc x))))), ((u 2), .inl (cI, 64, .inl r1)), ((u 3), .inl (cI, 64, .inl r2)), ((u 4), .inl (cF, 64, .inr (.inr (.inl r3)))), ((u 5), .inl (cI, 512, .inl g1)), ((u 6), .inl (cI, 512, .inl g2)), ((u 7), .inl (cI, 512, .inl g3)), ((u 8), .inl (cF, 512, .inr (.inr (.inl g4)))), ((u 9), .inl (cI, 16, .inl k1)), ((u 10), .inl (cF, 4096, .inr (.inr (.inl kc))))]) → va_S A s.heap H locs → lv_has ls 6 [(4, .int (nI i)), (3, .int (nI (((sL x).take i).filter (fun e => decide (¬ (lo.toInt ≤ (e.1 : Int) ∧ (e.1 : Int) ≤ hi.toInt)))).length)), (0, .ref (u 0)), (1, .int lo), (2, .int hi)] → W p l e (rmk 0 0 0) s m [.ref (u 0), .int lo, .int hi].toArray below meth c H locs 0 0 (MQ below (va_Qi (fun (r : Int32) (w1 : va_W) => r = nI ((sL x).length - ((sL x).filter (fun e => decide (¬ (lo.toInt ≤ (e.1 : Int) ∧ (e.1 : Int) ≤ hi.toInt)))).length) ∧ WM cI cF u n ev th R (stL x ((sL x).filter (fun e => decide (¬ (lo.toInt ≤ (e.1 : Int) ∧ (e.1 : Int) ≤ hi.toInt))))) w1) (fun w1 t => va_P D vwCl w1 t.heap) A) [.ref (u 0), .int lo, .int hi].toArray s 0 0 A) (F0 m 5 ls []) := by
    intro r
    induction r with
    | zero =>
      intro i h1 g1 g2 g3 g4 hKp hF H locs ls hP hD hS hl
      have hl : lv_has ls 6 [(4, .int (nI i)), (3, .int (nI (((sL x).take i).filter (fun e => decide (¬ (lo.toInt ≤ (e.1 : Int) ∧ (e.1 : Int) ≤ hi.toInt)))).length)), (0, .ref (u 0)), (1, .int lo), (2, .int hi)] := hl
      have hP : va_P D vwCl ([((u 0), .inr (4, [.int th, .int (nI n), .ref (u 1), .int (nI (sT x)), .int (nI ev), .int (sd x), .int (nI R.length), .ref (u 2), .ref (u 3), .ref (u 4), .int (nI ((sL x).length)), .ref (u 5), .ref (u 6), .ref (u 7), .ref (u 8), .int (nI ((sS x).length)), .ref (u 9), .ref (u 10)])), ((u 1), .inl (cF, 256, .inr (.inr (.inl (sc x))))), ((u 2), .inl (cI, 64, .inl r1)), ((u 3), .inl (cI, 64, .inl r2)), ((u 4), .inl (cF, 64, .inr (.inr (.inl r3)))), ((u 5), .inl (cI, 512, .inl g1)), ((u 6), .inl (cI, 512, .inl g2)), ((u 7), .inl (cI, 512, .inl g3)), ((u 8), .inl (cF, 512, .inr (.inr (.inl g4)))), ((u 9), .inl (cI, 16, .inl k1)), ((u 10), .inl (cF, 4096, .inr (.inr (.inl kc))))]) H := hP
      have hD : va_D A ([((u 0), .inr (4, [.int th, .int (nI n), .ref (u 1), .int (nI (sT x)), .int (nI ev), .int (sd x), .int (nI R.length), .ref (u 2), .ref (u 3), .ref (u 4), .int (nI ((sL x).length)), .ref (u 5), .ref (u 6), .ref (u 7), .ref (u 8), .int (nI ((sS x).length)), .ref (u 9), .ref (u 10)])), ((u 1), .inl (cF, 256, .inr (.inr (.inl (sc x))))), ((u 2), .inl (cI, 64, .inl r1)), ((u 3), .inl (cI, 64, .inl r2)), ((u 4), .inl (cF, 64, .inr (.inr (.inl r3)))), ((u 5), .inl (cI, 512, .inl g1)), ((u 6), .inl (cI, 512, .inl g2)), ((u 7), .inl (cI, 512, .inl g3)), ((u 8), .inl (cF, 512, .inr (.inr (.inl g4)))), ((u 9), .inl (cI, 16, .inl k1)), ((u 10), .inl (cF, 4096, .inr (.inr (.inl kc))))]) := hD
      refine lv_iload hx hb dX4_drop_5 (lv_at hl 0 rfl) ?_
      refine lv_aload_n hx hb dX4_drop_7 rfl (lv_at hl 2 rfl) ?_
      refine va_get (D := D) (ci := 4) (v := .int (nI ((sL x).length))) (C := RX4) (T := TX4) (N := 18) hx hb hts hiX4 hown hK hP 0 rfl rfl 10 (by decide) (hts (.fieldLink RX4 65 "StateKeeperModel" "inputs" "I") (List.mem_of_getElem? (i := 1) rfl)) (fun _ h9 => h9) rfl dX4_drop_8 ?_
      refine lv_icmp_ge (tgt := 109) hx hb dX4_drop_11 (by decide) (fun c_1 => ?_) (fun c_1 => absurd (nI_le (by omega) (by omega)) c_1)
      have hi2 : i = (sL x).length := by omega
      subst hi2
      have hle := List.length_filter_le (fun e => decide (¬ (lo.toInt ≤ (e.1 : Int) ∧ (e.1 : Int) ≤ hi.toInt))) ((sL x).take (sL x).length)
      rw [List.length_take] at hle
      rw [List.take_length] at hKp hle
      rw [List.take_length] at hl
      obtain ⟨F9, hF9⟩ : ∃ F9, F9 = ((sL x).filter (fun e => decide (¬ (lo.toInt ≤ (e.1 : Int) ∧ (e.1 : Int) ≤ hi.toInt)))) := ⟨_, rfl⟩
      rw [← hF9] at hKp hle hl
      have hl : lv_has ls 6 [(4, .int (nI (sL x).length)), (3, .int (nI F9.length)), (0, .ref (u 0)), (1, .int lo), (2, .int hi)] := hl
      refine lv_aload_n hx hb dX4_drop_109 rfl (lv_at hl 2 rfl) ?_
      refine va_get (D := D) (ci := 4) (v := .int (nI ((sL x).length))) (C := RX4) (T := TX4) (N := 18) hx hb hts hiX4 hown hK hP 0 rfl rfl 10 (by decide) (hts (.fieldLink RX4 65 "StateKeeperModel" "inputs" "I") (List.mem_of_getElem? (i := 1) rfl)) (fun _ h9 => h9) rfl dX4_drop_110 ?_
      refine lv_iload_n hx hb dX4_drop_113 rfl (lv_at hl 1 rfl) ?_
      refine lv_isub hx hb dX4_drop_114 ?_
      refine lz_i (pk_sub (by omega)) ?_
      refine lv_istore (lv' := [(4, .int (nI (((sL x).length) - F9.length))), (3, .int (nI F9.length)), (0, .ref (u 0)), (1, .int lo), (2, .int hi)]) hx hb dX4_drop_115 hl (by decide) rfl (fun ls hl => ?_)
      refine lv_aload_n hx hb dX4_drop_117 rfl (lv_at hl 2 rfl) ?_
      refine lv_iload_n hx hb dX4_drop_118 rfl (lv_at hl 1 rfl) ?_
      refine va_put (D := D) (ci := 4) (v := .int (nI F9.length)) (ty := .int) (C := RX4) (T := TX4) (N := 18) hx hb hts hiX4 tyX4 tyX4_ok nmX4 hown hK hP hD hS 0 rfl rfl 10 (by decide) (hts (.fieldLink RX4 65 "StateKeeperModel" "inputs" "I") (List.mem_of_getElem? (i := 1) rfl)) (fun _ h9 => h9) rfl (by decide +kernel) rfl rfl (Nat.le_of_ble_eq_true rfl) dX4_drop_119 (fun H locs hP hD hS => ?_)
      have hP : va_P D vwCl ([((u 0), .inr (4, [.int th, .int (nI n), .ref (u 1), .int (nI (sT x)), .int (nI ev), .int (sd x), .int (nI R.length), .ref (u 2), .ref (u 3), .ref (u 4), .int (nI F9.length), .ref (u 5), .ref (u 6), .ref (u 7), .ref (u 8), .int (nI ((sS x).length)), .ref (u 9), .ref (u 10)])), ((u 1), .inl (cF, 256, .inr (.inr (.inl (sc x))))), ((u 2), .inl (cI, 64, .inl r1)), ((u 3), .inl (cI, 64, .inl r2)), ((u 4), .inl (cF, 64, .inr (.inr (.inl r3)))), ((u 5), .inl (cI, 512, .inl g1)), ((u 6), .inl (cI, 512, .inl g2)), ((u 7), .inl (cI, 512, .inl g3)), ((u 8), .inl (cF, 512, .inr (.inr (.inl g4)))), ((u 9), .inl (cI, 16, .inl k1)), ((u 10), .inl (cF, 4096, .inr (.inr (.inl kc))))]) H := hP
      have hD : va_D A ([((u 0), .inr (4, [.int th, .int (nI n), .ref (u 1), .int (nI (sT x)), .int (nI ev), .int (sd x), .int (nI R.length), .ref (u 2), .ref (u 3), .ref (u 4), .int (nI F9.length), .ref (u 5), .ref (u 6), .ref (u 7), .ref (u 8), .int (nI ((sS x).length)), .ref (u 9), .ref (u 10)])), ((u 1), .inl (cF, 256, .inr (.inr (.inl (sc x))))), ((u 2), .inl (cI, 64, .inl r1)), ((u 3), .inl (cI, 64, .inl r2)), ((u 4), .inl (cF, 64, .inr (.inr (.inl r3)))), ((u 5), .inl (cI, 512, .inl g1)), ((u 6), .inl (cI, 512, .inl g2)), ((u 7), .inl (cI, 512, .inl g3)), ((u 8), .inl (cF, 512, .inr (.inr (.inl g4)))), ((u 9), .inl (cI, 16, .inl k1)), ((u 10), .inl (cF, 4096, .inr (.inr (.inl kc))))]) := hD
      refine lv_iload hx hb dX4_drop_122 (lv_at hl 0 rfl) ?_
      exact W.iret hx hb hr (fun t9 ht9 _ => ⟨⟨_, [((u 0), .inr (4, [.int th, .int (nI n), .ref (u 1), .int (nI (sT x)), .int (nI ev), .int (sd x), .int (nI R.length), .ref (u 2), .ref (u 3), .ref (u 4), .int (nI F9.length), .ref (u 5), .ref (u 6), .ref (u 7), .ref (u 8), .int (nI ((sS x).length)), .ref (u 9), .ref (u 10)])), ((u 1), .inl (cF, 256, .inr (.inr (.inl (sc x))))), ((u 2), .inl (cI, 64, .inl r1)), ((u 3), .inl (cI, 64, .inl r2)), ((u 4), .inl (cF, 64, .inr (.inr (.inl r3)))), ((u 5), .inl (cI, 512, .inl g1)), ((u 6), .inl (cI, 512, .inl g2)), ((u 7), .inl (cI, 512, .inl g3)), ((u 8), .inl (cF, 512, .inr (.inr (.inl g4)))), ((u 9), .inl (cI, 16, .inl k1)), ((u 10), .inl (cF, 4096, .inr (.inr (.inl kc))))], rfl, by rw [← hF9]; exact ⟨rfl, _, _, _, _, _, _, _, _, _, hdr, hKp, hks, rfl⟩, by show va_P D vwCl _ t9.heap; rw [ht9]; exact hP⟩, hS.F ht9⟩) hS.2.2 dX4_drop_124
    | succ r ih =>
      intro i h1 g1 g2 g3 g4 hKp hF H locs ls hP hD hS hl
      have hl : lv_has ls 6 [(4, .int (nI i)), (3, .int (nI (((sL x).take i).filter (fun e => decide (¬ (lo.toInt ≤ (e.1 : Int) ∧ (e.1 : Int) ≤ hi.toInt)))).length)), (0, .ref (u 0)), (1, .int lo), (2, .int hi)] := hl
      have hP : va_P D vwCl ([((u 0), .inr (4, [.int th, .int (nI n), .ref (u 1), .int (nI (sT x)), .int (nI ev), .int (sd x), .int (nI R.length), .ref (u 2), .ref (u 3), .ref (u 4), .int (nI ((sL x).length)), .ref (u 5), .ref (u 6), .ref (u 7), .ref (u 8), .int (nI ((sS x).length)), .ref (u 9), .ref (u 10)])), ((u 1), .inl (cF, 256, .inr (.inr (.inl (sc x))))), ((u 2), .inl (cI, 64, .inl r1)), ((u 3), .inl (cI, 64, .inl r2)), ((u 4), .inl (cF, 64, .inr (.inr (.inl r3)))), ((u 5), .inl (cI, 512, .inl g1)), ((u 6), .inl (cI, 512, .inl g2)), ((u 7), .inl (cI, 512, .inl g3)), ((u 8), .inl (cF, 512, .inr (.inr (.inl g4)))), ((u 9), .inl (cI, 16, .inl k1)), ((u 10), .inl (cF, 4096, .inr (.inr (.inl kc))))]) H := hP
      have hD : va_D A ([((u 0), .inr (4, [.int th, .int (nI n), .ref (u 1), .int (nI (sT x)), .int (nI ev), .int (sd x), .int (nI R.length), .ref (u 2), .ref (u 3), .ref (u 4), .int (nI ((sL x).length)), .ref (u 5), .ref (u 6), .ref (u 7), .ref (u 8), .int (nI ((sS x).length)), .ref (u 9), .ref (u 10)])), ((u 1), .inl (cF, 256, .inr (.inr (.inl (sc x))))), ((u 2), .inl (cI, 64, .inl r1)), ((u 3), .inl (cI, 64, .inl r2)), ((u 4), .inl (cF, 64, .inr (.inr (.inl r3)))), ((u 5), .inl (cI, 512, .inl g1)), ((u 6), .inl (cI, 512, .inl g2)), ((u 7), .inl (cI, 512, .inl g3)), ((u 8), .inl (cF, 512, .inr (.inr (.inl g4)))), ((u 9), .inl (cI, 16, .inl k1)), ((u 10), .inl (cF, 4096, .inr (.inr (.inl kc))))]) := hD
      obtain ⟨e9, he⟩ : ∃ e9, (sL x)[i]? = some e9 := ⟨_, List.getElem?_eq_getElem (by omega)⟩
      have hin9 := hL.2 e9 (List.mem_of_getElem? he)
      have hg9 := hF i e9 (Nat.le_refl i) he
      have hle : (((sL x).take i).filter (fun e => decide (¬ (lo.toInt ≤ (e.1 : Int) ∧ (e.1 : Int) ≤ hi.toInt)))).length ≤ i := Nat.le_trans (List.length_filter_le _ _) (by rw [List.length_take]; omega)
      have hts1 := take_s he
      refine lv_iload hx hb dX4_drop_5 (lv_at hl 0 rfl) ?_
      refine lv_aload_n hx hb dX4_drop_7 rfl (lv_at hl 2 rfl) ?_
      refine va_get (D := D) (ci := 4) (v := .int (nI ((sL x).length))) (C := RX4) (T := TX4) (N := 18) hx hb hts hiX4 hown hK hP 0 rfl rfl 10 (by decide) (hts (.fieldLink RX4 65 "StateKeeperModel" "inputs" "I") (List.mem_of_getElem? (i := 1) rfl)) (fun _ h9 => h9) rfl dX4_drop_8 ?_
      refine lv_icmp_ge (tgt := 109) hx hb dX4_drop_11 (by decide) (fun c1 => absurd c1 (nI_ge (by omega) (by omega))) (fun c1 => ?_)
      refine lv_aload_n hx hb dX4_drop_14 rfl (lv_at hl 2 rfl) ?_
      refine va_get (D := D) (ci := 4) (v := .ref (u 5)) (C := RX4) (T := TX4) (N := 18) hx hb hts hiX4 hown hK hP 0 rfl rfl 11 (by decide) (hts (.fieldLink RX4 23 "StateKeeperModel" "steps" "[I") (List.mem_of_getElem? (i := 2) rfl)) (fun _ h9 => h9) rfl dX4_drop_15 ?_
      refine lv_iload hx hb dX4_drop_18 (lv_at hl 0 rfl) ?_
      refine lz_iald hx hb hK hP 5 1 rfl rfl (by omega) (by omega) dX4_drop_20 ?_
      refine lz_i (y := nI e9.1) hg9.1 ?_
      refine lv_iload_n hx hb dX4_drop_21 rfl (lv_at hl 3 rfl) ?_
      refine lv_icmp_lt (tgt := 40) hx hb dX4_drop_22 (by decide) (fun c_2 => ?_) (fun c_2 => ?_)
      · have hn : ¬ (lo.toInt ≤ (e9.1 : Int) ∧ (e9.1 : Int) ≤ hi.toInt) := fun q => absurd ((Int32.lt_iff_toInt_lt).mp c_2) (by rw [nI_toInt (by omega)]; omega)
        refine lv_iconst (v := nI 0) hx hb dX4_drop_40 (by decide) ?_
        refine lv_istore (lv' := [(5, .int (nI 0)), (4, .int (nI i)), (3, .int (nI (((sL x).take i).filter (fun e => decide (¬ (lo.toInt ≤ (e.1 : Int) ∧ (e.1 : Int) ≤ hi.toInt)))).length)), (0, .ref (u 0)), (1, .int lo), (2, .int hi)]) hx hb dX4_drop_41 hl (by decide) rfl (fun ls hl => ?_)
        refine lv_iload hx hb dX4_drop_43 (lv_at hl 0 rfl) ?_
        refine lv_if_ne (tgt := 103) hx hb dX4_drop_45 (by decide) (fun c_3 => absurd nI_0 c_3) (fun c_3 => ?_)
        have hk : ((sL x).take (i + 1)).filter (fun e => decide (¬ (lo.toInt ≤ (e.1 : Int) ∧ (e.1 : Int) ≤ hi.toInt))) = (((sL x).take i).filter (fun e => decide (¬ (lo.toInt ≤ (e.1 : Int) ∧ (e.1 : Int) ≤ hi.toInt)))) ++ [e9] := by rw [hts1, List.filter_append, List.filter_cons_of_pos (by exact decide_eq_true hn)]; rfl
        clear hn
        refine lv_aload_n hx hb dX4_drop_48 rfl (lv_at hl 3 rfl) ?_
        refine va_get (D := D) (ci := 4) (v := .ref (u 5)) (C := RX4) (T := TX4) (N := 18) hx hb hts hiX4 hown hK hP 0 rfl rfl 11 (by decide) (hts (.fieldLink RX4 23 "StateKeeperModel" "steps" "[I") (List.mem_of_getElem? (i := 2) rfl)) (fun _ h9 => h9) rfl dX4_drop_49 ?_
        refine lv_iload_n hx hb dX4_drop_52 rfl (lv_at hl 2 rfl) ?_
        refine lv_aload_n hx hb dX4_drop_53 rfl (lv_at hl 3 rfl) ?_
        refine va_get (D := D) (ci := 4) (v := .ref (u 5)) (C := RX4) (T := TX4) (N := 18) hx hb hts hiX4 hown hK hP 0 rfl rfl 11 (by decide) (hts (.fieldLink RX4 23 "StateKeeperModel" "steps" "[I") (List.mem_of_getElem? (i := 2) rfl)) (fun _ h9 => h9) rfl dX4_drop_54 ?_
        refine lv_iload hx hb dX4_drop_57 (lv_at hl 1 rfl) ?_
        refine lz_iald hx hb hK hP 5 1 rfl rfl (by omega) (by omega) dX4_drop_59 ?_
        refine lz_i (y := nI e9.1) hg9.1 ?_
        refine lz_iast hx hb hK hP hD hS 5 1 rfl rfl (by omega) (by omega) dX4_drop_60 (fun H locs hP hD hS => ?_)
        have hP : va_P D vwCl ([((u 0), .inr (4, [.int th, .int (nI n), .ref (u 1), .int (nI (sT x)), .int (nI ev), .int (sd x), .int (nI R.length), .ref (u 2), .ref (u 3), .ref (u 4), .int (nI ((sL x).length)), .ref (u 5), .ref (u 6), .ref (u 7), .ref (u 8), .int (nI ((sS x).length)), .ref (u 9), .ref (u 10)])), ((u 1), .inl (cF, 256, .inr (.inr (.inl (sc x))))), ((u 2), .inl (cI, 64, .inl r1)), ((u 3), .inl (cI, 64, .inl r2)), ((u 4), .inl (cF, 64, .inr (.inr (.inl r3)))), ((u 5), .inl (cI, 512, .inl (upd g1 ((((sL x).take i).filter (fun e => decide (¬ (lo.toInt ≤ (e.1 : Int) ∧ (e.1 : Int) ≤ hi.toInt)))).length) (nI e9.1)))), ((u 6), .inl (cI, 512, .inl g2)), ((u 7), .inl (cI, 512, .inl g3)), ((u 8), .inl (cF, 512, .inr (.inr (.inl g4)))), ((u 9), .inl (cI, 16, .inl k1)), ((u 10), .inl (cF, 4096, .inr (.inr (.inl kc))))]) H := hP
        have hD : va_D A ([((u 0), .inr (4, [.int th, .int (nI n), .ref (u 1), .int (nI (sT x)), .int (nI ev), .int (sd x), .int (nI R.length), .ref (u 2), .ref (u 3), .ref (u 4), .int (nI ((sL x).length)), .ref (u 5), .ref (u 6), .ref (u 7), .ref (u 8), .int (nI ((sS x).length)), .ref (u 9), .ref (u 10)])), ((u 1), .inl (cF, 256, .inr (.inr (.inl (sc x))))), ((u 2), .inl (cI, 64, .inl r1)), ((u 3), .inl (cI, 64, .inl r2)), ((u 4), .inl (cF, 64, .inr (.inr (.inl r3)))), ((u 5), .inl (cI, 512, .inl (upd g1 ((((sL x).take i).filter (fun e => decide (¬ (lo.toInt ≤ (e.1 : Int) ∧ (e.1 : Int) ≤ hi.toInt)))).length) (nI e9.1)))), ((u 6), .inl (cI, 512, .inl g2)), ((u 7), .inl (cI, 512, .inl g3)), ((u 8), .inl (cF, 512, .inr (.inr (.inl g4)))), ((u 9), .inl (cI, 16, .inl k1)), ((u 10), .inl (cF, 4096, .inr (.inr (.inl kc))))]) := hD
        refine lv_aload_n hx hb dX4_drop_61 rfl (lv_at hl 3 rfl) ?_
        refine va_get (D := D) (ci := 4) (v := .ref (u 6)) (C := RX4) (T := TX4) (N := 18) hx hb hts hiX4 hown hK hP 0 rfl rfl 12 (by decide) (hts (.fieldLink RX4 26 "StateKeeperModel" "which" "[I") (List.mem_of_getElem? (i := 3) rfl)) (fun _ h9 => h9) rfl dX4_drop_62 ?_
        refine lv_iload_n hx hb dX4_drop_65 rfl (lv_at hl 2 rfl) ?_
        refine lv_aload_n hx hb dX4_drop_66 rfl (lv_at hl 3 rfl) ?_
        refine va_get (D := D) (ci := 4) (v := .ref (u 6)) (C := RX4) (T := TX4) (N := 18) hx hb hts hiX4 hown hK hP 0 rfl rfl 12 (by decide) (hts (.fieldLink RX4 26 "StateKeeperModel" "which" "[I") (List.mem_of_getElem? (i := 3) rfl)) (fun _ h9 => h9) rfl dX4_drop_67 ?_
        refine lv_iload hx hb dX4_drop_70 (lv_at hl 1 rfl) ?_
        refine lz_iald hx hb hK hP 6 1 rfl rfl (by omega) (by omega) dX4_drop_72 ?_
        refine lz_i (y := nI e9.2.1) hg9.2.1 ?_
        refine lz_iast hx hb hK hP hD hS 6 1 rfl rfl (by omega) (by omega) dX4_drop_73 (fun H locs hP hD hS => ?_)
        have hP : va_P D vwCl ([((u 0), .inr (4, [.int th, .int (nI n), .ref (u 1), .int (nI (sT x)), .int (nI ev), .int (sd x), .int (nI R.length), .ref (u 2), .ref (u 3), .ref (u 4), .int (nI ((sL x).length)), .ref (u 5), .ref (u 6), .ref (u 7), .ref (u 8), .int (nI ((sS x).length)), .ref (u 9), .ref (u 10)])), ((u 1), .inl (cF, 256, .inr (.inr (.inl (sc x))))), ((u 2), .inl (cI, 64, .inl r1)), ((u 3), .inl (cI, 64, .inl r2)), ((u 4), .inl (cF, 64, .inr (.inr (.inl r3)))), ((u 5), .inl (cI, 512, .inl (upd g1 ((((sL x).take i).filter (fun e => decide (¬ (lo.toInt ≤ (e.1 : Int) ∧ (e.1 : Int) ≤ hi.toInt)))).length) (nI e9.1)))), ((u 6), .inl (cI, 512, .inl (upd g2 ((((sL x).take i).filter (fun e => decide (¬ (lo.toInt ≤ (e.1 : Int) ∧ (e.1 : Int) ≤ hi.toInt)))).length) (nI e9.2.1)))), ((u 7), .inl (cI, 512, .inl g3)), ((u 8), .inl (cF, 512, .inr (.inr (.inl g4)))), ((u 9), .inl (cI, 16, .inl k1)), ((u 10), .inl (cF, 4096, .inr (.inr (.inl kc))))]) H := hP
        have hD : va_D A ([((u 0), .inr (4, [.int th, .int (nI n), .ref (u 1), .int (nI (sT x)), .int (nI ev), .int (sd x), .int (nI R.length), .ref (u 2), .ref (u 3), .ref (u 4), .int (nI ((sL x).length)), .ref (u 5), .ref (u 6), .ref (u 7), .ref (u 8), .int (nI ((sS x).length)), .ref (u 9), .ref (u 10)])), ((u 1), .inl (cF, 256, .inr (.inr (.inl (sc x))))), ((u 2), .inl (cI, 64, .inl r1)), ((u 3), .inl (cI, 64, .inl r2)), ((u 4), .inl (cF, 64, .inr (.inr (.inl r3)))), ((u 5), .inl (cI, 512, .inl (upd g1 ((((sL x).take i).filter (fun e => decide (¬ (lo.toInt ≤ (e.1 : Int) ∧ (e.1 : Int) ≤ hi.toInt)))).length) (nI e9.1)))), ((u 6), .inl (cI, 512, .inl (upd g2 ((((sL x).take i).filter (fun e => decide (¬ (lo.toInt ≤ (e.1 : Int) ∧ (e.1 : Int) ≤ hi.toInt)))).length) (nI e9.2.1)))), ((u 7), .inl (cI, 512, .inl g3)), ((u 8), .inl (cF, 512, .inr (.inr (.inl g4)))), ((u 9), .inl (cI, 16, .inl k1)), ((u 10), .inl (cF, 4096, .inr (.inr (.inl kc))))]) := hD
        refine lv_aload_n hx hb dX4_drop_74 rfl (lv_at hl 3 rfl) ?_
        refine va_get (D := D) (ci := 4) (v := .ref (u 7)) (C := RX4) (T := TX4) (N := 18) hx hb hts hiX4 hown hK hP 0 rfl rfl 13 (by decide) (hts (.fieldLink RX4 29 "StateKeeperModel" "ways" "[I") (List.mem_of_getElem? (i := 4) rfl)) (fun _ h9 => h9) rfl dX4_drop_75 ?_
        refine lv_iload_n hx hb dX4_drop_78 rfl (lv_at hl 2 rfl) ?_
        refine lv_aload_n hx hb dX4_drop_79 rfl (lv_at hl 3 rfl) ?_
        refine va_get (D := D) (ci := 4) (v := .ref (u 7)) (C := RX4) (T := TX4) (N := 18) hx hb hts hiX4 hown hK hP 0 rfl rfl 13 (by decide) (hts (.fieldLink RX4 29 "StateKeeperModel" "ways" "[I") (List.mem_of_getElem? (i := 4) rfl)) (fun _ h9 => h9) rfl dX4_drop_80 ?_
        refine lv_iload hx hb dX4_drop_83 (lv_at hl 1 rfl) ?_
        refine lz_iald hx hb hK hP 7 1 rfl rfl (by omega) (by omega) dX4_drop_85 ?_
        refine lz_i (y := nI e9.2.2.1) hg9.2.2.1 ?_
        refine lz_iast hx hb hK hP hD hS 7 1 rfl rfl (by omega) (by omega) dX4_drop_86 (fun H locs hP hD hS => ?_)
        have hP : va_P D vwCl ([((u 0), .inr (4, [.int th, .int (nI n), .ref (u 1), .int (nI (sT x)), .int (nI ev), .int (sd x), .int (nI R.length), .ref (u 2), .ref (u 3), .ref (u 4), .int (nI ((sL x).length)), .ref (u 5), .ref (u 6), .ref (u 7), .ref (u 8), .int (nI ((sS x).length)), .ref (u 9), .ref (u 10)])), ((u 1), .inl (cF, 256, .inr (.inr (.inl (sc x))))), ((u 2), .inl (cI, 64, .inl r1)), ((u 3), .inl (cI, 64, .inl r2)), ((u 4), .inl (cF, 64, .inr (.inr (.inl r3)))), ((u 5), .inl (cI, 512, .inl (upd g1 ((((sL x).take i).filter (fun e => decide (¬ (lo.toInt ≤ (e.1 : Int) ∧ (e.1 : Int) ≤ hi.toInt)))).length) (nI e9.1)))), ((u 6), .inl (cI, 512, .inl (upd g2 ((((sL x).take i).filter (fun e => decide (¬ (lo.toInt ≤ (e.1 : Int) ∧ (e.1 : Int) ≤ hi.toInt)))).length) (nI e9.2.1)))), ((u 7), .inl (cI, 512, .inl (upd g3 ((((sL x).take i).filter (fun e => decide (¬ (lo.toInt ≤ (e.1 : Int) ∧ (e.1 : Int) ≤ hi.toInt)))).length) (nI e9.2.2.1)))), ((u 8), .inl (cF, 512, .inr (.inr (.inl g4)))), ((u 9), .inl (cI, 16, .inl k1)), ((u 10), .inl (cF, 4096, .inr (.inr (.inl kc))))]) H := hP
        have hD : va_D A ([((u 0), .inr (4, [.int th, .int (nI n), .ref (u 1), .int (nI (sT x)), .int (nI ev), .int (sd x), .int (nI R.length), .ref (u 2), .ref (u 3), .ref (u 4), .int (nI ((sL x).length)), .ref (u 5), .ref (u 6), .ref (u 7), .ref (u 8), .int (nI ((sS x).length)), .ref (u 9), .ref (u 10)])), ((u 1), .inl (cF, 256, .inr (.inr (.inl (sc x))))), ((u 2), .inl (cI, 64, .inl r1)), ((u 3), .inl (cI, 64, .inl r2)), ((u 4), .inl (cF, 64, .inr (.inr (.inl r3)))), ((u 5), .inl (cI, 512, .inl (upd g1 ((((sL x).take i).filter (fun e => decide (¬ (lo.toInt ≤ (e.1 : Int) ∧ (e.1 : Int) ≤ hi.toInt)))).length) (nI e9.1)))), ((u 6), .inl (cI, 512, .inl (upd g2 ((((sL x).take i).filter (fun e => decide (¬ (lo.toInt ≤ (e.1 : Int) ∧ (e.1 : Int) ≤ hi.toInt)))).length) (nI e9.2.1)))), ((u 7), .inl (cI, 512, .inl (upd g3 ((((sL x).take i).filter (fun e => decide (¬ (lo.toInt ≤ (e.1 : Int) ∧ (e.1 : Int) ≤ hi.toInt)))).length) (nI e9.2.2.1)))), ((u 8), .inl (cF, 512, .inr (.inr (.inl g4)))), ((u 9), .inl (cI, 16, .inl k1)), ((u 10), .inl (cF, 4096, .inr (.inr (.inl kc))))]) := hD
        refine lv_aload_n hx hb dX4_drop_87 rfl (lv_at hl 3 rfl) ?_
        refine va_get (D := D) (ci := 4) (v := .ref (u 8)) (C := RX4) (T := TX4) (N := 18) hx hb hts hiX4 hown hK hP 0 rfl rfl 14 (by decide) (hts (.fieldLink RX4 32 "StateKeeperModel" "values" "[F") (List.mem_of_getElem? (i := 5) rfl)) (fun _ h9 => h9) rfl dX4_drop_88 ?_
        refine lv_iload_n hx hb dX4_drop_91 rfl (lv_at hl 2 rfl) ?_
        refine lv_aload_n hx hb dX4_drop_92 rfl (lv_at hl 3 rfl) ?_
        refine va_get (D := D) (ci := 4) (v := .ref (u 8)) (C := RX4) (T := TX4) (N := 18) hx hb hts hiX4 hown hK hP 0 rfl rfl 14 (by decide) (hts (.fieldLink RX4 32 "StateKeeperModel" "values" "[F") (List.mem_of_getElem? (i := 5) rfl)) (fun _ h9 => h9) rfl dX4_drop_93 ?_
        refine lv_iload hx hb dX4_drop_96 (lv_at hl 1 rfl) ?_
        refine lz_fald hx hb hK hP 8 0 rfl rfl (by omega) (by omega) dX4_drop_98 ?_
        refine lz_f (y := e9.2.2.2) hg9.2.2.2 ?_
        refine lz_fast hx hb hK hP hD hS 8 0 rfl rfl (by omega) (by omega) dX4_drop_99 (fun H locs hP hD hS => ?_)
        have hP : va_P D vwCl ([((u 0), .inr (4, [.int th, .int (nI n), .ref (u 1), .int (nI (sT x)), .int (nI ev), .int (sd x), .int (nI R.length), .ref (u 2), .ref (u 3), .ref (u 4), .int (nI ((sL x).length)), .ref (u 5), .ref (u 6), .ref (u 7), .ref (u 8), .int (nI ((sS x).length)), .ref (u 9), .ref (u 10)])), ((u 1), .inl (cF, 256, .inr (.inr (.inl (sc x))))), ((u 2), .inl (cI, 64, .inl r1)), ((u 3), .inl (cI, 64, .inl r2)), ((u 4), .inl (cF, 64, .inr (.inr (.inl r3)))), ((u 5), .inl (cI, 512, .inl (upd g1 ((((sL x).take i).filter (fun e => decide (¬ (lo.toInt ≤ (e.1 : Int) ∧ (e.1 : Int) ≤ hi.toInt)))).length) (nI e9.1)))), ((u 6), .inl (cI, 512, .inl (upd g2 ((((sL x).take i).filter (fun e => decide (¬ (lo.toInt ≤ (e.1 : Int) ∧ (e.1 : Int) ≤ hi.toInt)))).length) (nI e9.2.1)))), ((u 7), .inl (cI, 512, .inl (upd g3 ((((sL x).take i).filter (fun e => decide (¬ (lo.toInt ≤ (e.1 : Int) ∧ (e.1 : Int) ≤ hi.toInt)))).length) (nI e9.2.2.1)))), ((u 8), .inl (cF, 512, .inr (.inr (.inl (vf_upd g4 ((((sL x).take i).filter (fun e => decide (¬ (lo.toInt ≤ (e.1 : Int) ∧ (e.1 : Int) ≤ hi.toInt)))).length) (e9.2.2.2)))))), ((u 9), .inl (cI, 16, .inl k1)), ((u 10), .inl (cF, 4096, .inr (.inr (.inl kc))))]) H := hP
        have hD : va_D A ([((u 0), .inr (4, [.int th, .int (nI n), .ref (u 1), .int (nI (sT x)), .int (nI ev), .int (sd x), .int (nI R.length), .ref (u 2), .ref (u 3), .ref (u 4), .int (nI ((sL x).length)), .ref (u 5), .ref (u 6), .ref (u 7), .ref (u 8), .int (nI ((sS x).length)), .ref (u 9), .ref (u 10)])), ((u 1), .inl (cF, 256, .inr (.inr (.inl (sc x))))), ((u 2), .inl (cI, 64, .inl r1)), ((u 3), .inl (cI, 64, .inl r2)), ((u 4), .inl (cF, 64, .inr (.inr (.inl r3)))), ((u 5), .inl (cI, 512, .inl (upd g1 ((((sL x).take i).filter (fun e => decide (¬ (lo.toInt ≤ (e.1 : Int) ∧ (e.1 : Int) ≤ hi.toInt)))).length) (nI e9.1)))), ((u 6), .inl (cI, 512, .inl (upd g2 ((((sL x).take i).filter (fun e => decide (¬ (lo.toInt ≤ (e.1 : Int) ∧ (e.1 : Int) ≤ hi.toInt)))).length) (nI e9.2.1)))), ((u 7), .inl (cI, 512, .inl (upd g3 ((((sL x).take i).filter (fun e => decide (¬ (lo.toInt ≤ (e.1 : Int) ∧ (e.1 : Int) ≤ hi.toInt)))).length) (nI e9.2.2.1)))), ((u 8), .inl (cF, 512, .inr (.inr (.inl (vf_upd g4 ((((sL x).take i).filter (fun e => decide (¬ (lo.toInt ≤ (e.1 : Int) ∧ (e.1 : Int) ≤ hi.toInt)))).length) (e9.2.2.2)))))), ((u 9), .inl (cI, 16, .inl k1)), ((u 10), .inl (cF, 4096, .inr (.inr (.inl kc))))]) := hD
        refine lv_iinc (v := nI ((((sL x).take i).filter (fun e => decide (¬ (lo.toInt ≤ (e.1 : Int) ∧ (e.1 : Int) ≤ hi.toInt)))).length + 1)) (lv' := [(3, .int (nI ((((sL x).take i).filter (fun e => decide (¬ (lo.toInt ≤ (e.1 : Int) ∧ (e.1 : Int) ≤ hi.toInt)))).length + 1))), (5, .int (nI 0)), (4, .int (nI i)), (0, .ref (u 0)), (1, .int lo), (2, .int hi)]) hx hb dX4_drop_100 hl (k := 2) rfl (nI_add _ 1) (by decide) rfl (fun ls hl => ?_)
        refine lv_iinc (v := nI (i + 1)) (lv' := [(4, .int (nI (i + 1))), (3, .int (nI ((((sL x).take i).filter (fun e => decide (¬ (lo.toInt ≤ (e.1 : Int) ∧ (e.1 : Int) ≤ hi.toInt)))).length + 1))), (5, .int (nI 0)), (0, .ref (u 0)), (1, .int lo), (2, .int hi)]) hx hb dX4_drop_103 hl (k := 2) rfl (nI_add _ 1) (by decide) rfl (fun ls hl => ?_)
        refine lv_goto (tgt := 5) hx hb dX4_drop_106 (by decide) ?_
        have hkl : (((sL x).take (i + 1)).filter (fun e => decide (¬ (lo.toInt ≤ (e.1 : Int) ∧ (e.1 : Int) ≤ hi.toInt)))).length = (((sL x).take i).filter (fun e => decide (¬ (lo.toInt ≤ (e.1 : Int) ∧ (e.1 : Int) ≤ hi.toInt)))).length + 1 := by rw [hk, List.length_append]; rfl
        exact ih (i + 1) (by omega) _ _ _ _ (by rw [hk]; exact recOk_app hKp e9) (recFr_u (by omega) hF) H locs ls hP hD hS (by rw [hkl]; exact lv_sub hl [0, 1, 3, 4, 5] rfl)
      · have h2 : lo.toInt ≤ (e9.1 : Int) := by have := mt (Int32.lt_iff_toInt_lt).mpr c_2; rw [nI_toInt (by omega)] at this; omega
        refine lv_aload_n hx hb dX4_drop_25 rfl (lv_at hl 2 rfl) ?_
        refine va_get (D := D) (ci := 4) (v := .ref (u 5)) (C := RX4) (T := TX4) (N := 18) hx hb hts hiX4 hown hK hP 0 rfl rfl 11 (by decide) (hts (.fieldLink RX4 23 "StateKeeperModel" "steps" "[I") (List.mem_of_getElem? (i := 2) rfl)) (fun _ h9 => h9) rfl dX4_drop_26 ?_
        refine lv_iload hx hb dX4_drop_29 (lv_at hl 0 rfl) ?_
        refine lz_iald hx hb hK hP 5 1 rfl rfl (by omega) (by omega) dX4_drop_31 ?_
        refine lz_i (y := nI e9.1) hg9.1 ?_
        refine lv_iload_n hx hb dX4_drop_32 rfl (lv_at hl 4 rfl) ?_
        refine lv_icmp_gt (tgt := 40) hx hb dX4_drop_33 (by decide) (fun c_4 => ?_) (fun c_4 => ?_)
        · have hn : ¬ (lo.toInt ≤ (e9.1 : Int) ∧ (e9.1 : Int) ≤ hi.toInt) := fun q => absurd ((Int32.lt_iff_toInt_lt).mp c_4) (by rw [nI_toInt (by omega)]; omega)
          refine lv_iconst (v := nI 0) hx hb dX4_drop_40 (by decide) ?_
          refine lv_istore (lv' := [(5, .int (nI 0)), (4, .int (nI i)), (3, .int (nI (((sL x).take i).filter (fun e => decide (¬ (lo.toInt ≤ (e.1 : Int) ∧ (e.1 : Int) ≤ hi.toInt)))).length)), (0, .ref (u 0)), (1, .int lo), (2, .int hi)]) hx hb dX4_drop_41 hl (by decide) rfl (fun ls hl => ?_)
          refine lv_iload hx hb dX4_drop_43 (lv_at hl 0 rfl) ?_
          refine lv_if_ne (tgt := 103) hx hb dX4_drop_45 (by decide) (fun c_5 => absurd nI_0 c_5) (fun c_5 => ?_)
          have hk : ((sL x).take (i + 1)).filter (fun e => decide (¬ (lo.toInt ≤ (e.1 : Int) ∧ (e.1 : Int) ≤ hi.toInt))) = (((sL x).take i).filter (fun e => decide (¬ (lo.toInt ≤ (e.1 : Int) ∧ (e.1 : Int) ≤ hi.toInt)))) ++ [e9] := by rw [hts1, List.filter_append, List.filter_cons_of_pos (by exact decide_eq_true hn)]; rfl
          clear hn
          refine lv_aload_n hx hb dX4_drop_48 rfl (lv_at hl 3 rfl) ?_
          refine va_get (D := D) (ci := 4) (v := .ref (u 5)) (C := RX4) (T := TX4) (N := 18) hx hb hts hiX4 hown hK hP 0 rfl rfl 11 (by decide) (hts (.fieldLink RX4 23 "StateKeeperModel" "steps" "[I") (List.mem_of_getElem? (i := 2) rfl)) (fun _ h9 => h9) rfl dX4_drop_49 ?_
          refine lv_iload_n hx hb dX4_drop_52 rfl (lv_at hl 2 rfl) ?_
          refine lv_aload_n hx hb dX4_drop_53 rfl (lv_at hl 3 rfl) ?_
          refine va_get (D := D) (ci := 4) (v := .ref (u 5)) (C := RX4) (T := TX4) (N := 18) hx hb hts hiX4 hown hK hP 0 rfl rfl 11 (by decide) (hts (.fieldLink RX4 23 "StateKeeperModel" "steps" "[I") (List.mem_of_getElem? (i := 2) rfl)) (fun _ h9 => h9) rfl dX4_drop_54 ?_
          refine lv_iload hx hb dX4_drop_57 (lv_at hl 1 rfl) ?_
          refine lz_iald hx hb hK hP 5 1 rfl rfl (by omega) (by omega) dX4_drop_59 ?_
          refine lz_i (y := nI e9.1) hg9.1 ?_
          refine lz_iast hx hb hK hP hD hS 5 1 rfl rfl (by omega) (by omega) dX4_drop_60 (fun H locs hP hD hS => ?_)
          have hP : va_P D vwCl ([((u 0), .inr (4, [.int th, .int (nI n), .ref (u 1), .int (nI (sT x)), .int (nI ev), .int (sd x), .int (nI R.length), .ref (u 2), .ref (u 3), .ref (u 4), .int (nI ((sL x).length)), .ref (u 5), .ref (u 6), .ref (u 7), .ref (u 8), .int (nI ((sS x).length)), .ref (u 9), .ref (u 10)])), ((u 1), .inl (cF, 256, .inr (.inr (.inl (sc x))))), ((u 2), .inl (cI, 64, .inl r1)), ((u 3), .inl (cI, 64, .inl r2)), ((u 4), .inl (cF, 64, .inr (.inr (.inl r3)))), ((u 5), .inl (cI, 512, .inl (upd g1 ((((sL x).take i).filter (fun e => decide (¬ (lo.toInt ≤ (e.1 : Int) ∧ (e.1 : Int) ≤ hi.toInt)))).length) (nI e9.1)))), ((u 6), .inl (cI, 512, .inl g2)), ((u 7), .inl (cI, 512, .inl g3)), ((u 8), .inl (cF, 512, .inr (.inr (.inl g4)))), ((u 9), .inl (cI, 16, .inl k1)), ((u 10), .inl (cF, 4096, .inr (.inr (.inl kc))))]) H := hP
          have hD : va_D A ([((u 0), .inr (4, [.int th, .int (nI n), .ref (u 1), .int (nI (sT x)), .int (nI ev), .int (sd x), .int (nI R.length), .ref (u 2), .ref (u 3), .ref (u 4), .int (nI ((sL x).length)), .ref (u 5), .ref (u 6), .ref (u 7), .ref (u 8), .int (nI ((sS x).length)), .ref (u 9), .ref (u 10)])), ((u 1), .inl (cF, 256, .inr (.inr (.inl (sc x))))), ((u 2), .inl (cI, 64, .inl r1)), ((u 3), .inl (cI, 64, .inl r2)), ((u 4), .inl (cF, 64, .inr (.inr (.inl r3)))), ((u 5), .inl (cI, 512, .inl (upd g1 ((((sL x).take i).filter (fun e => decide (¬ (lo.toInt ≤ (e.1 : Int) ∧ (e.1 : Int) ≤ hi.toInt)))).length) (nI e9.1)))), ((u 6), .inl (cI, 512, .inl g2)), ((u 7), .inl (cI, 512, .inl g3)), ((u 8), .inl (cF, 512, .inr (.inr (.inl g4)))), ((u 9), .inl (cI, 16, .inl k1)), ((u 10), .inl (cF, 4096, .inr (.inr (.inl kc))))]) := hD
          refine lv_aload_n hx hb dX4_drop_61 rfl (lv_at hl 3 rfl) ?_
          refine va_get (D := D) (ci := 4) (v := .ref (u 6)) (C := RX4) (T := TX4) (N := 18) hx hb hts hiX4 hown hK hP 0 rfl rfl 12 (by decide) (hts (.fieldLink RX4 26 "StateKeeperModel" "which" "[I") (List.mem_of_getElem? (i := 3) rfl)) (fun _ h9 => h9) rfl dX4_drop_62 ?_
          refine lv_iload_n hx hb dX4_drop_65 rfl (lv_at hl 2 rfl) ?_
          refine lv_aload_n hx hb dX4_drop_66 rfl (lv_at hl 3 rfl) ?_
          refine va_get (D := D) (ci := 4) (v := .ref (u 6)) (C := RX4) (T := TX4) (N := 18) hx hb hts hiX4 hown hK hP 0 rfl rfl 12 (by decide) (hts (.fieldLink RX4 26 "StateKeeperModel" "which" "[I") (List.mem_of_getElem? (i := 3) rfl)) (fun _ h9 => h9) rfl dX4_drop_67 ?_
          refine lv_iload hx hb dX4_drop_70 (lv_at hl 1 rfl) ?_
          refine lz_iald hx hb hK hP 6 1 rfl rfl (by omega) (by omega) dX4_drop_72 ?_
          refine lz_i (y := nI e9.2.1) hg9.2.1 ?_
          refine lz_iast hx hb hK hP hD hS 6 1 rfl rfl (by omega) (by omega) dX4_drop_73 (fun H locs hP hD hS => ?_)
          have hP : va_P D vwCl ([((u 0), .inr (4, [.int th, .int (nI n), .ref (u 1), .int (nI (sT x)), .int (nI ev), .int (sd x), .int (nI R.length), .ref (u 2), .ref (u 3), .ref (u 4), .int (nI ((sL x).length)), .ref (u 5), .ref (u 6), .ref (u 7), .ref (u 8), .int (nI ((sS x).length)), .ref (u 9), .ref (u 10)])), ((u 1), .inl (cF, 256, .inr (.inr (.inl (sc x))))), ((u 2), .inl (cI, 64, .inl r1)), ((u 3), .inl (cI, 64, .inl r2)), ((u 4), .inl (cF, 64, .inr (.inr (.inl r3)))), ((u 5), .inl (cI, 512, .inl (upd g1 ((((sL x).take i).filter (fun e => decide (¬ (lo.toInt ≤ (e.1 : Int) ∧ (e.1 : Int) ≤ hi.toInt)))).length) (nI e9.1)))), ((u 6), .inl (cI, 512, .inl (upd g2 ((((sL x).take i).filter (fun e => decide (¬ (lo.toInt ≤ (e.1 : Int) ∧ (e.1 : Int) ≤ hi.toInt)))).length) (nI e9.2.1)))), ((u 7), .inl (cI, 512, .inl g3)), ((u 8), .inl (cF, 512, .inr (.inr (.inl g4)))), ((u 9), .inl (cI, 16, .inl k1)), ((u 10), .inl (cF, 4096, .inr (.inr (.inl kc))))]) H := hP
          have hD : va_D A ([((u 0), .inr (4, [.int th, .int (nI n), .ref (u 1), .int (nI (sT x)), .int (nI ev), .int (sd x), .int (nI R.length), .ref (u 2), .ref (u 3), .ref (u 4), .int (nI ((sL x).length)), .ref (u 5), .ref (u 6), .ref (u 7), .ref (u 8), .int (nI ((sS x).length)), .ref (u 9), .ref (u 10)])), ((u 1), .inl (cF, 256, .inr (.inr (.inl (sc x))))), ((u 2), .inl (cI, 64, .inl r1)), ((u 3), .inl (cI, 64, .inl r2)), ((u 4), .inl (cF, 64, .inr (.inr (.inl r3)))), ((u 5), .inl (cI, 512, .inl (upd g1 ((((sL x).take i).filter (fun e => decide (¬ (lo.toInt ≤ (e.1 : Int) ∧ (e.1 : Int) ≤ hi.toInt)))).length) (nI e9.1)))), ((u 6), .inl (cI, 512, .inl (upd g2 ((((sL x).take i).filter (fun e => decide (¬ (lo.toInt ≤ (e.1 : Int) ∧ (e.1 : Int) ≤ hi.toInt)))).length) (nI e9.2.1)))), ((u 7), .inl (cI, 512, .inl g3)), ((u 8), .inl (cF, 512, .inr (.inr (.inl g4)))), ((u 9), .inl (cI, 16, .inl k1)), ((u 10), .inl (cF, 4096, .inr (.inr (.inl kc))))]) := hD
          refine lv_aload_n hx hb dX4_drop_74 rfl (lv_at hl 3 rfl) ?_
          refine va_get (D := D) (ci := 4) (v := .ref (u 7)) (C := RX4) (T := TX4) (N := 18) hx hb hts hiX4 hown hK hP 0 rfl rfl 13 (by decide) (hts (.fieldLink RX4 29 "StateKeeperModel" "ways" "[I") (List.mem_of_getElem? (i := 4) rfl)) (fun _ h9 => h9) rfl dX4_drop_75 ?_
          refine lv_iload_n hx hb dX4_drop_78 rfl (lv_at hl 2 rfl) ?_
          refine lv_aload_n hx hb dX4_drop_79 rfl (lv_at hl 3 rfl) ?_
          refine va_get (D := D) (ci := 4) (v := .ref (u 7)) (C := RX4) (T := TX4) (N := 18) hx hb hts hiX4 hown hK hP 0 rfl rfl 13 (by decide) (hts (.fieldLink RX4 29 "StateKeeperModel" "ways" "[I") (List.mem_of_getElem? (i := 4) rfl)) (fun _ h9 => h9) rfl dX4_drop_80 ?_
          refine lv_iload hx hb dX4_drop_83 (lv_at hl 1 rfl) ?_
          refine lz_iald hx hb hK hP 7 1 rfl rfl (by omega) (by omega) dX4_drop_85 ?_
          refine lz_i (y := nI e9.2.2.1) hg9.2.2.1 ?_
          refine lz_iast hx hb hK hP hD hS 7 1 rfl rfl (by omega) (by omega) dX4_drop_86 (fun H locs hP hD hS => ?_)
          have hP : va_P D vwCl ([((u 0), .inr (4, [.int th, .int (nI n), .ref (u 1), .int (nI (sT x)), .int (nI ev), .int (sd x), .int (nI R.length), .ref (u 2), .ref (u 3), .ref (u 4), .int (nI ((sL x).length)), .ref (u 5), .ref (u 6), .ref (u 7), .ref (u 8), .int (nI ((sS x).length)), .ref (u 9), .ref (u 10)])), ((u 1), .inl (cF, 256, .inr (.inr (.inl (sc x))))), ((u 2), .inl (cI, 64, .inl r1)), ((u 3), .inl (cI, 64, .inl r2)), ((u 4), .inl (cF, 64, .inr (.inr (.inl r3)))), ((u 5), .inl (cI, 512, .inl (upd g1 ((((sL x).take i).filter (fun e => decide (¬ (lo.toInt ≤ (e.1 : Int) ∧ (e.1 : Int) ≤ hi.toInt)))).length) (nI e9.1)))), ((u 6), .inl (cI, 512, .inl (upd g2 ((((sL x).take i).filter (fun e => decide (¬ (lo.toInt ≤ (e.1 : Int) ∧ (e.1 : Int) ≤ hi.toInt)))).length) (nI e9.2.1)))), ((u 7), .inl (cI, 512, .inl (upd g3 ((((sL x).take i).filter (fun e => decide (¬ (lo.toInt ≤ (e.1 : Int) ∧ (e.1 : Int) ≤ hi.toInt)))).length) (nI e9.2.2.1)))), ((u 8), .inl (cF, 512, .inr (.inr (.inl g4)))), ((u 9), .inl (cI, 16, .inl k1)), ((u 10), .inl (cF, 4096, .inr (.inr (.inl kc))))]) H := hP
          have hD : va_D A ([((u 0), .inr (4, [.int th, .int (nI n), .ref (u 1), .int (nI (sT x)), .int (nI ev), .int (sd x), .int (nI R.length), .ref (u 2), .ref (u 3), .ref (u 4), .int (nI ((sL x).length)), .ref (u 5), .ref (u 6), .ref (u 7), .ref (u 8), .int (nI ((sS x).length)), .ref (u 9), .ref (u 10)])), ((u 1), .inl (cF, 256, .inr (.inr (.inl (sc x))))), ((u 2), .inl (cI, 64, .inl r1)), ((u 3), .inl (cI, 64, .inl r2)), ((u 4), .inl (cF, 64, .inr (.inr (.inl r3)))), ((u 5), .inl (cI, 512, .inl (upd g1 ((((sL x).take i).filter (fun e => decide (¬ (lo.toInt ≤ (e.1 : Int) ∧ (e.1 : Int) ≤ hi.toInt)))).length) (nI e9.1)))), ((u 6), .inl (cI, 512, .inl (upd g2 ((((sL x).take i).filter (fun e => decide (¬ (lo.toInt ≤ (e.1 : Int) ∧ (e.1 : Int) ≤ hi.toInt)))).length) (nI e9.2.1)))), ((u 7), .inl (cI, 512, .inl (upd g3 ((((sL x).take i).filter (fun e => decide (¬ (lo.toInt ≤ (e.1 : Int) ∧ (e.1 : Int) ≤ hi.toInt)))).length) (nI e9.2.2.1)))), ((u 8), .inl (cF, 512, .inr (.inr (.inl g4)))), ((u 9), .inl (cI, 16, .inl k1)), ((u 10), .inl (cF, 4096, .inr (.inr (.inl kc))))]) := hD
          refine lv_aload_n hx hb dX4_drop_87 rfl (lv_at hl 3 rfl) ?_
          refine va_get (D := D) (ci := 4) (v := .ref (u 8)) (C := RX4) (T := TX4) (N := 18) hx hb hts hiX4 hown hK hP 0 rfl rfl 14 (by decide) (hts (.fieldLink RX4 32 "StateKeeperModel" "values" "[F") (List.mem_of_getElem? (i := 5) rfl)) (fun _ h9 => h9) rfl dX4_drop_88 ?_
          refine lv_iload_n hx hb dX4_drop_91 rfl (lv_at hl 2 rfl) ?_
          refine lv_aload_n hx hb dX4_drop_92 rfl (lv_at hl 3 rfl) ?_
          refine va_get (D := D) (ci := 4) (v := .ref (u 8)) (C := RX4) (T := TX4) (N := 18) hx hb hts hiX4 hown hK hP 0 rfl rfl 14 (by decide) (hts (.fieldLink RX4 32 "StateKeeperModel" "values" "[F") (List.mem_of_getElem? (i := 5) rfl)) (fun _ h9 => h9) rfl dX4_drop_93 ?_
          refine lv_iload hx hb dX4_drop_96 (lv_at hl 1 rfl) ?_
          refine lz_fald hx hb hK hP 8 0 rfl rfl (by omega) (by omega) dX4_drop_98 ?_
          refine lz_f (y := e9.2.2.2) hg9.2.2.2 ?_
          refine lz_fast hx hb hK hP hD hS 8 0 rfl rfl (by omega) (by omega) dX4_drop_99 (fun H locs hP hD hS => ?_)
          have hP : va_P D vwCl ([((u 0), .inr (4, [.int th, .int (nI n), .ref (u 1), .int (nI (sT x)), .int (nI ev), .int (sd x), .int (nI R.length), .ref (u 2), .ref (u 3), .ref (u 4), .int (nI ((sL x).length)), .ref (u 5), .ref (u 6), .ref (u 7), .ref (u 8), .int (nI ((sS x).length)), .ref (u 9), .ref (u 10)])), ((u 1), .inl (cF, 256, .inr (.inr (.inl (sc x))))), ((u 2), .inl (cI, 64, .inl r1)), ((u 3), .inl (cI, 64, .inl r2)), ((u 4), .inl (cF, 64, .inr (.inr (.inl r3)))), ((u 5), .inl (cI, 512, .inl (upd g1 ((((sL x).take i).filter (fun e => decide (¬ (lo.toInt ≤ (e.1 : Int) ∧ (e.1 : Int) ≤ hi.toInt)))).length) (nI e9.1)))), ((u 6), .inl (cI, 512, .inl (upd g2 ((((sL x).take i).filter (fun e => decide (¬ (lo.toInt ≤ (e.1 : Int) ∧ (e.1 : Int) ≤ hi.toInt)))).length) (nI e9.2.1)))), ((u 7), .inl (cI, 512, .inl (upd g3 ((((sL x).take i).filter (fun e => decide (¬ (lo.toInt ≤ (e.1 : Int) ∧ (e.1 : Int) ≤ hi.toInt)))).length) (nI e9.2.2.1)))), ((u 8), .inl (cF, 512, .inr (.inr (.inl (vf_upd g4 ((((sL x).take i).filter (fun e => decide (¬ (lo.toInt ≤ (e.1 : Int) ∧ (e.1 : Int) ≤ hi.toInt)))).length) (e9.2.2.2)))))), ((u 9), .inl (cI, 16, .inl k1)), ((u 10), .inl (cF, 4096, .inr (.inr (.inl kc))))]) H := hP
          have hD : va_D A ([((u 0), .inr (4, [.int th, .int (nI n), .ref (u 1), .int (nI (sT x)), .int (nI ev), .int (sd x), .int (nI R.length), .ref (u 2), .ref (u 3), .ref (u 4), .int (nI ((sL x).length)), .ref (u 5), .ref (u 6), .ref (u 7), .ref (u 8), .int (nI ((sS x).length)), .ref (u 9), .ref (u 10)])), ((u 1), .inl (cF, 256, .inr (.inr (.inl (sc x))))), ((u 2), .inl (cI, 64, .inl r1)), ((u 3), .inl (cI, 64, .inl r2)), ((u 4), .inl (cF, 64, .inr (.inr (.inl r3)))), ((u 5), .inl (cI, 512, .inl (upd g1 ((((sL x).take i).filter (fun e => decide (¬ (lo.toInt ≤ (e.1 : Int) ∧ (e.1 : Int) ≤ hi.toInt)))).length) (nI e9.1)))), ((u 6), .inl (cI, 512, .inl (upd g2 ((((sL x).take i).filter (fun e => decide (¬ (lo.toInt ≤ (e.1 : Int) ∧ (e.1 : Int) ≤ hi.toInt)))).length) (nI e9.2.1)))), ((u 7), .inl (cI, 512, .inl (upd g3 ((((sL x).take i).filter (fun e => decide (¬ (lo.toInt ≤ (e.1 : Int) ∧ (e.1 : Int) ≤ hi.toInt)))).length) (nI e9.2.2.1)))), ((u 8), .inl (cF, 512, .inr (.inr (.inl (vf_upd g4 ((((sL x).take i).filter (fun e => decide (¬ (lo.toInt ≤ (e.1 : Int) ∧ (e.1 : Int) ≤ hi.toInt)))).length) (e9.2.2.2)))))), ((u 9), .inl (cI, 16, .inl k1)), ((u 10), .inl (cF, 4096, .inr (.inr (.inl kc))))]) := hD
          refine lv_iinc (v := nI ((((sL x).take i).filter (fun e => decide (¬ (lo.toInt ≤ (e.1 : Int) ∧ (e.1 : Int) ≤ hi.toInt)))).length + 1)) (lv' := [(3, .int (nI ((((sL x).take i).filter (fun e => decide (¬ (lo.toInt ≤ (e.1 : Int) ∧ (e.1 : Int) ≤ hi.toInt)))).length + 1))), (5, .int (nI 0)), (4, .int (nI i)), (0, .ref (u 0)), (1, .int lo), (2, .int hi)]) hx hb dX4_drop_100 hl (k := 2) rfl (nI_add _ 1) (by decide) rfl (fun ls hl => ?_)
          refine lv_iinc (v := nI (i + 1)) (lv' := [(4, .int (nI (i + 1))), (3, .int (nI ((((sL x).take i).filter (fun e => decide (¬ (lo.toInt ≤ (e.1 : Int) ∧ (e.1 : Int) ≤ hi.toInt)))).length + 1))), (5, .int (nI 0)), (0, .ref (u 0)), (1, .int lo), (2, .int hi)]) hx hb dX4_drop_103 hl (k := 2) rfl (nI_add _ 1) (by decide) rfl (fun ls hl => ?_)
          refine lv_goto (tgt := 5) hx hb dX4_drop_106 (by decide) ?_
          have hkl : (((sL x).take (i + 1)).filter (fun e => decide (¬ (lo.toInt ≤ (e.1 : Int) ∧ (e.1 : Int) ≤ hi.toInt)))).length = (((sL x).take i).filter (fun e => decide (¬ (lo.toInt ≤ (e.1 : Int) ∧ (e.1 : Int) ≤ hi.toInt)))).length + 1 := by rw [hk, List.length_append]; rfl
          exact ih (i + 1) (by omega) _ _ _ _ (by rw [hk]; exact recOk_app hKp e9) (recFr_u (by omega) hF) H locs ls hP hD hS (by rw [hkl]; exact lv_sub hl [0, 1, 3, 4, 5] rfl)
        · have h4 : (e9.1 : Int) ≤ hi.toInt := by have := mt (Int32.lt_iff_toInt_lt).mpr c_4; rw [nI_toInt (by omega)] at this; omega
          have hneg : ¬ (decide (¬ (lo.toInt ≤ (e9.1 : Int) ∧ (e9.1 : Int) ≤ hi.toInt)) = true) := fun q => of_decide_eq_true q ⟨h2, h4⟩
          have hk : ((sL x).take (i + 1)).filter (fun e => decide (¬ (lo.toInt ≤ (e.1 : Int) ∧ (e.1 : Int) ≤ hi.toInt))) = (((sL x).take i).filter (fun e => decide (¬ (lo.toInt ≤ (e.1 : Int) ∧ (e.1 : Int) ≤ hi.toInt)))) := by rw [hts1, List.filter_append, List.filter_cons_of_neg (p := (fun (e : rI) => decide (¬ (lo.toInt ≤ (e.1 : Int) ∧ (e.1 : Int) ≤ hi.toInt)))) hneg]; exact List.append_nil _
          refine lv_iconst (v := nI 1) hx hb dX4_drop_36 (by decide) ?_
          refine lv_goto (tgt := 41) hx hb dX4_drop_37 (by decide) ?_
          refine lv_istore (lv' := [(5, .int (nI 1)), (4, .int (nI i)), (3, .int (nI (((sL x).take i).filter (fun e => decide (¬ (lo.toInt ≤ (e.1 : Int) ∧ (e.1 : Int) ≤ hi.toInt)))).length)), (0, .ref (u 0)), (1, .int lo), (2, .int hi)]) hx hb dX4_drop_41 hl (by decide) rfl (fun ls hl => ?_)
          refine lv_iload hx hb dX4_drop_43 (lv_at hl 0 rfl) ?_
          refine lv_if_ne (tgt := 103) hx hb dX4_drop_45 (by decide) (fun c_6 => ?_) (fun c_6 => absurd c_6 (by decide))
          refine lv_iinc (v := nI (i + 1)) (lv' := [(4, .int (nI (i + 1))), (5, .int (nI 1)), (3, .int (nI (((sL x).take i).filter (fun e => decide (¬ (lo.toInt ≤ (e.1 : Int) ∧ (e.1 : Int) ≤ hi.toInt)))).length)), (0, .ref (u 0)), (1, .int lo), (2, .int hi)]) hx hb dX4_drop_103 hl (k := 1) rfl (nI_add _ 1) (by decide) rfl (fun ls hl => ?_)
          refine lv_goto (tgt := 5) hx hb dX4_drop_106 (by decide) ?_
          exact ih (i + 1) (by omega) _ _ _ _ (by rw [hk]; exact hKp) (recFr_s hF) H locs ls hP hD hS (by rw [hk]; exact lv_sub hl [0, 2, 3, 4, 5] rfl)
  exact loop (sL x).length 0 (by omega) f1 f2 f3 f4 (fun j e9 hj => by simp at hj) (fun j e9 _ hj => hrec j e9 hj) s.heap [] ls hP hD hS hl

set_option maxRecDepth 100000 in
set_option maxHeartbeats 4000000 in
/-- act(k) -/
theorem c_X4_act {k : Nat} {ee : rI} (hk : (sL x)[k]? = some ee) (hL : rIn n (sL x)) (hn : n ≤ 256) (hcf : cfin (sc x)) (hw : WM cI cF u n ev th R x w) : Met l yX4_act wsX4_act (rmk 1 0 0) (pcW l D cI cF cQ aT [.ref (u 0), .int (nI k)] w sz) (va_Qv (fun (w1 : va_W) => WM cI cF u n ev th R (actC (sc x) ee, sT x, sd x, sL x, sS x) w1) (fun w1 t => va_P D vwCl w1 t.heap) (va_A w sz)) 0 0 (va_A w sz) := by
  obtain ⟨r1, r2, r3, f1, f2, f3, f4, k1, kc, hdr, hrec, hks, rfl⟩ := id hw
  refine lz_ofM (Qf := fun A => va_Qv (fun (w1 : va_W) => WM cI cF u n ev th R (actC (sc x) ee, sT x, sd x, sL x, sS x) w1) (fun w1 t => va_P D vwCl w1 t.heap) A) (cc := cX4_act) (maxL := 3) (ret := none) (by decide) rfl (Nat.le_of_ble_eq_true rfl) ?_
  intro p e s m below meth c A hAe hsz hx hb hr hlk hin hC hP hD hS ls hl
  clear hAe
  have hts := hC.1.2.2.2.2
  have hown : s.vm.findClass RX4 = some m.cls := hC.1.2.2.2.1
  have hml := hC.1.2.2.1
  have hA := hC.2.1
  have hK := hC.2.2.2.1
  have hnm := hC.2.2.2.2.1
  have hnf := hC.2.2.2.2.2.1
  have hiX4 : ∀ w ∈ u_ws RX4 TX4 18, w ∈ wsX4_act := fun _ h => List.mem_cons_of_mem _ (List.mem_append_right _ h)
  have hl : lv_has ls 3 [(0, .ref (u 0)), (1, .int (nI k))] := hl
  have hL8 := hL.1
  have hin9 := hL.2 ee (List.mem_of_getElem? hk)
  have hg9 := hrec k ee hk
  have hkl : k < (sL x).length := (List.getElem?_eq_some_iff.mp hk).1
  refine lv_aload_n hx hb dX4_act_0 rfl (lv_at hl 0 rfl) ?_
  refine va_get (D := D) (ci := 4) (v := .ref (u 6)) (C := RX4) (T := TX4) (N := 18) hx hb hts hiX4 hown hK hP 0 rfl rfl 12 (by decide) (hts (.fieldLink RX4 26 "StateKeeperModel" "which" "[I") (List.mem_of_getElem? (i := 1) rfl)) (fun _ h9 => h9) rfl dX4_act_1 ?_
  refine lv_iload_n hx hb dX4_act_4 rfl (lv_at hl 1 rfl) ?_
  refine lz_iald hx hb hK hP 6 1 rfl rfl (by omega) (by omega) dX4_act_5 ?_
  refine lz_i (y := nI ee.2.1) hg9.2.1 ?_
  refine lv_istore_n (lv' := [(2, .int (nI ee.2.1)), (0, .ref (u 0)), (1, .int (nI k))]) hx hb dX4_act_6 rfl hl (by decide) rfl (fun ls hl => ?_)
  have fin : ∀ y : UInt32, y = chg (sc x ee.2.1) ee.2.2.1 ee.2.2.2 → W p l e (rmk 1 0 0) s m [.ref (u 0), .int (nI k)].toArray below meth c s.heap [] 0 0 (MQ below (va_Qv (fun (w1 : va_W) => WM cI cF u n ev th R (actC (sc x) ee, sT x, sd x, sL x, sS x) w1) (fun w1 t => va_P D vwCl w1 t.heap) A) [.ref (u 0), .int (nI k)].toArray s 0 0 A) (F0 m 69 ls [.float y, .int (nI ee.2.1), .ref (u 1)]) := by
    intro y hy
    refine vp_callSf (lz_runS (As := [.float y]) (rest := [.int (nI ee.2.1), .ref (u 1)]) hC hS hl (c_X4_held (w := (mW cI cF u n ev th (sT x) (sd x) (sc x) R.length r1 r2 r3 (sL x).length f1 f2 f3 f4 (sS x).length k1 kc)) (hy ▸ chg_N (hcf _) hin9.2.2.2)) (va_cwS 1 hts gX4_act_X4_held rfl rfl rfl (by decide +kernel) ⟨Nat.le_of_ble_eq_true rfl, Nat.le_of_ble_eq_true rfl⟩) hP hD rfl rfl (Nat.le_of_ble_eq_true rfl) dX4_act_69 ⟨Nat.le_of_ble_eq_true rfl, Nat.le_of_ble_eq_true rfl⟩).run (fun r_1 er_1 => ?_)
    subst er_1
    refine lz_fast hx hb hK hP hD hS 1 0 rfl rfl (by omega) (by omega) dX4_act_72 (fun H locs hP hD hS => ?_)
    have hP : va_P D vwCl ([((u 0), .inr (4, [.int th, .int (nI n), .ref (u 1), .int (nI (sT x)), .int (nI ev), .int (sd x), .int (nI R.length), .ref (u 2), .ref (u 3), .ref (u 4), .int (nI ((sL x).length)), .ref (u 5), .ref (u 6), .ref (u 7), .ref (u 8), .int (nI ((sS x).length)), .ref (u 9), .ref (u 10)])), ((u 1), .inl (cF, 256, .inr (.inr (.inl (vf_upd (sc x) ee.2.1 (heldF y)))))), ((u 2), .inl (cI, 64, .inl r1)), ((u 3), .inl (cI, 64, .inl r2)), ((u 4), .inl (cF, 64, .inr (.inr (.inl r3)))), ((u 5), .inl (cI, 512, .inl f1)), ((u 6), .inl (cI, 512, .inl f2)), ((u 7), .inl (cI, 512, .inl f3)), ((u 8), .inl (cF, 512, .inr (.inr (.inl f4)))), ((u 9), .inl (cI, 16, .inl k1)), ((u 10), .inl (cF, 4096, .inr (.inr (.inl kc))))]) H := hP
    have hD : va_D A ([((u 0), .inr (4, [.int th, .int (nI n), .ref (u 1), .int (nI (sT x)), .int (nI ev), .int (sd x), .int (nI R.length), .ref (u 2), .ref (u 3), .ref (u 4), .int (nI ((sL x).length)), .ref (u 5), .ref (u 6), .ref (u 7), .ref (u 8), .int (nI ((sS x).length)), .ref (u 9), .ref (u 10)])), ((u 1), .inl (cF, 256, .inr (.inr (.inl (vf_upd (sc x) ee.2.1 (heldF y)))))), ((u 2), .inl (cI, 64, .inl r1)), ((u 3), .inl (cI, 64, .inl r2)), ((u 4), .inl (cF, 64, .inr (.inr (.inl r3)))), ((u 5), .inl (cI, 512, .inl f1)), ((u 6), .inl (cI, 512, .inl f2)), ((u 7), .inl (cI, 512, .inl f3)), ((u 8), .inl (cF, 512, .inr (.inr (.inl f4)))), ((u 9), .inl (cI, 16, .inl k1)), ((u 10), .inl (cF, 4096, .inr (.inr (.inl kc))))]) := hD
    exact W.vret hx hb hr (fun t9 ht9 _ => ⟨⟨[((u 0), .inr (4, [.int th, .int (nI n), .ref (u 1), .int (nI (sT x)), .int (nI ev), .int (sd x), .int (nI R.length), .ref (u 2), .ref (u 3), .ref (u 4), .int (nI ((sL x).length)), .ref (u 5), .ref (u 6), .ref (u 7), .ref (u 8), .int (nI ((sS x).length)), .ref (u 9), .ref (u 10)])), ((u 1), .inl (cF, 256, .inr (.inr (.inl (vf_upd (sc x) ee.2.1 (heldF y)))))), ((u 2), .inl (cI, 64, .inl r1)), ((u 3), .inl (cI, 64, .inl r2)), ((u 4), .inl (cF, 64, .inr (.inr (.inl r3)))), ((u 5), .inl (cI, 512, .inl f1)), ((u 6), .inl (cI, 512, .inl f2)), ((u 7), .inl (cI, 512, .inl f3)), ((u 8), .inl (cF, 512, .inr (.inr (.inl f4)))), ((u 9), .inl (cI, 16, .inl k1)), ((u 10), .inl (cF, 4096, .inr (.inr (.inl kc))))], rfl, ⟨_, _, _, _, _, _, _, _, _, hdr, hrec, hks, by subst hy; rfl⟩, by show va_P D vwCl _ t9.heap; rw [ht9]; exact hP⟩, hS.F ht9⟩) hS.2.2 dX4_act_73
  refine lv_aload_n hx hb dX4_act_7 rfl (lv_at hl 1 rfl) ?_
  refine va_get (D := D) (ci := 4) (v := .ref (u 1)) (C := RX4) (T := TX4) (N := 18) hx hb hts hiX4 hown hK hP 0 rfl rfl 2 (by decide) (hts (.fieldLink RX4 7 "StateKeeperModel" "cells" "[F") (List.mem_of_getElem? (i := 2) rfl)) (fun _ h9 => h9) rfl dX4_act_8 ?_
  refine lv_iload_n hx hb dX4_act_11 rfl (lv_at hl 0 rfl) ?_
  refine lv_aload_n hx hb dX4_act_12 rfl (lv_at hl 1 rfl) ?_
  refine va_get (D := D) (ci := 4) (v := .ref (u 7)) (C := RX4) (T := TX4) (N := 18) hx hb hts hiX4 hown hK hP 0 rfl rfl 13 (by decide) (hts (.fieldLink RX4 29 "StateKeeperModel" "ways" "[I") (List.mem_of_getElem? (i := 3) rfl)) (fun _ h9 => h9) rfl dX4_act_13 ?_
  refine lv_iload_n hx hb dX4_act_16 rfl (lv_at hl 2 rfl) ?_
  refine lz_iald hx hb hK hP 7 1 rfl rfl (by omega) (by omega) dX4_act_17 ?_
  refine lz_i (y := nI ee.2.2.1) hg9.2.2.1 ?_
  refine lv_if_ne (tgt := 30) hx hb dX4_act_18 (by decide) (fun c_2 => ?_) (fun c_2 => ?_)
  · have h0 : ¬ ee.2.2.1 = 0 := fun q => c_2 ((iz_ne0 (by omega)).mpr q)
    refine lv_aload_n hx hb dX4_act_30 rfl (lv_at hl 1 rfl) ?_
    refine va_get (D := D) (ci := 4) (v := .ref (u 7)) (C := RX4) (T := TX4) (N := 18) hx hb hts hiX4 hown hK hP 0 rfl rfl 13 (by decide) (hts (.fieldLink RX4 29 "StateKeeperModel" "ways" "[I") (List.mem_of_getElem? (i := 3) rfl)) (fun _ h9 => h9) rfl dX4_act_31 ?_
    refine lv_iload_n hx hb dX4_act_34 rfl (lv_at hl 2 rfl) ?_
    refine lz_iald hx hb hK hP 7 1 rfl rfl (by omega) (by omega) dX4_act_35 ?_
    refine lz_i (y := nI ee.2.2.1) hg9.2.2.1 ?_
    refine lv_iconst (v := nI 1) hx hb dX4_act_36 (by decide) ?_
    refine lv_icmp_ne (tgt := 56) hx hb dX4_act_37 (by decide) (fun c_3 => ?_) (fun c_3 => ?_)
    · have h1 : ¬ ee.2.2.1 = 1 := fun q => c_3 ((nI_eq (by omega) (by omega)).mpr q)
      refine lv_aload_n hx hb dX4_act_56 rfl (lv_at hl 1 rfl) ?_
      refine va_get (D := D) (ci := 4) (v := .ref (u 1)) (C := RX4) (T := TX4) (N := 18) hx hb hts hiX4 hown hK hP 0 rfl rfl 2 (by decide) (hts (.fieldLink RX4 7 "StateKeeperModel" "cells" "[F") (List.mem_of_getElem? (i := 2) rfl)) (fun _ h9 => h9) rfl dX4_act_57 ?_
      refine lv_iload_n hx hb dX4_act_60 rfl (lv_at hl 0 rfl) ?_
      refine lz_fald hx hb hK hP 1 0 rfl rfl (by omega) (by omega) dX4_act_61 ?_
      refine lv_aload_n hx hb dX4_act_62 rfl (lv_at hl 1 rfl) ?_
      refine va_get (D := D) (ci := 4) (v := .ref (u 8)) (C := RX4) (T := TX4) (N := 18) hx hb hts hiX4 hown hK hP 0 rfl rfl 14 (by decide) (hts (.fieldLink RX4 32 "StateKeeperModel" "values" "[F") (List.mem_of_getElem? (i := 4) rfl)) (fun _ h9 => h9) rfl dX4_act_63 ?_
      refine lv_iload_n hx hb dX4_act_66 rfl (lv_at hl 2 rfl) ?_
      refine lz_fald hx hb hK hP 8 0 rfl rfl (by omega) (by omega) dX4_act_67 ?_
      refine lz_f (y := ee.2.2.2) hg9.2.2.2 ?_
      refine lv_fmul hx hb dX4_act_68 (fl_n32 (fl_mul (hcf _) hin9.2.2.2)) ?_
      exact fin _ (by unfold chg; rw [if_neg h0, if_neg h1])
    · have h1 : ee.2.2.1 = 1 := (nI_eq (by omega) (by omega)).mp c_3
      refine lv_aload_n hx hb dX4_act_40 rfl (lv_at hl 1 rfl) ?_
      refine va_get (D := D) (ci := 4) (v := .ref (u 1)) (C := RX4) (T := TX4) (N := 18) hx hb hts hiX4 hown hK hP 0 rfl rfl 2 (by decide) (hts (.fieldLink RX4 7 "StateKeeperModel" "cells" "[F") (List.mem_of_getElem? (i := 2) rfl)) (fun _ h9 => h9) rfl dX4_act_41 ?_
      refine lv_iload_n hx hb dX4_act_44 rfl (lv_at hl 0 rfl) ?_
      refine lz_fald hx hb hK hP 1 0 rfl rfl (by omega) (by omega) dX4_act_45 ?_
      refine lv_aload_n hx hb dX4_act_46 rfl (lv_at hl 1 rfl) ?_
      refine va_get (D := D) (ci := 4) (v := .ref (u 8)) (C := RX4) (T := TX4) (N := 18) hx hb hts hiX4 hown hK hP 0 rfl rfl 14 (by decide) (hts (.fieldLink RX4 32 "StateKeeperModel" "values" "[F") (List.mem_of_getElem? (i := 4) rfl)) (fun _ h9 => h9) rfl dX4_act_47 ?_
      refine lv_iload_n hx hb dX4_act_50 rfl (lv_at hl 2 rfl) ?_
      refine lz_fald hx hb hK hP 8 0 rfl rfl (by omega) (by omega) dX4_act_51 ?_
      refine lz_f (y := ee.2.2.2) hg9.2.2.2 ?_
      refine lv_fadd hx hb dX4_act_52 (fl_n32 (fl_add' (hcf _) (fl_F hin9.2.2.2))) ?_
      refine lv_goto (tgt := 69) hx hb dX4_act_53 (by decide) ?_
      exact fin _ (by unfold chg; rw [if_neg h0, if_pos h1])
  · have h0 : ee.2.2.1 = 0 := (iz_ne0 (by omega)).mp c_2
    refine lv_aload_n hx hb dX4_act_21 rfl (lv_at hl 1 rfl) ?_
    refine va_get (D := D) (ci := 4) (v := .ref (u 8)) (C := RX4) (T := TX4) (N := 18) hx hb hts hiX4 hown hK hP 0 rfl rfl 14 (by decide) (hts (.fieldLink RX4 32 "StateKeeperModel" "values" "[F") (List.mem_of_getElem? (i := 4) rfl)) (fun _ h9 => h9) rfl dX4_act_22 ?_
    refine lv_iload_n hx hb dX4_act_25 rfl (lv_at hl 2 rfl) ?_
    refine lz_fald hx hb hK hP 8 0 rfl rfl (by omega) (by omega) dX4_act_26 ?_
    refine lz_f (y := ee.2.2.2) hg9.2.2.2 ?_
    refine lv_goto (tgt := 69) hx hb dX4_act_27 (by decide) ?_
    exact fin _ (by unfold chg; rw [if_pos h0])

set_option maxRecDepth 100000 in
set_option maxHeartbeats 4000000 in
/-- placeOf(step) -/
theorem c_X4_placeOf {z : Int32} (hS2 : sGood (sS x)) (hw : WM cI cF u n ev th R x w) : Met l yX4_placeOf wsX4_placeOf (rmk 0 0 0) (pcW l D cI cF cQ aT [.ref (u 0), .int z] w sz) (vp_Si (fun r => r = opI (plc (sS x) z.toInt))) 0 0 (fun _ => False) := by
  obtain ⟨r1, r2, r3, f1, f2, f3, f4, k1, kc, hdr, hrec, hks, rfl⟩ := id hw
  refine lz_ofR (cc := cX4_placeOf) (maxL := 3) (ret := (some .int)) (by decide) rfl (Nat.le_of_ble_eq_true rfl) ?_
  intro p e s m below meth c A hx hb hr hlk hC hP hD hS ls hl
  have hts := hC.1.2.2.2.2
  have hown : s.vm.findClass RX4 = some m.cls := hC.1.2.2.2.1
  have hml := hC.1.2.2.1
  have hA := hC.2.1
  have hK := hC.2.2.2.1
  have hnm := hC.2.2.2.2.1
  have hnf := hC.2.2.2.2.2.1
  have hiX4 : ∀ w ∈ u_ws RX4 TX4 18, w ∈ wsX4_placeOf := fun _ h => List.mem_cons_of_mem _ (List.mem_append_right _ h)
  have hl : lv_has ls 3 [(0, .ref (u 0)), (1, .int z)] := hl
  have hS8 := hS2.2.1
  refine lv_iconst (v := nI 0) hx hb dX4_placeOf_0 (by decide) ?_
  refine lv_istore_n (lv' := [(2, .int (nI 0)), (0, .ref (u 0)), (1, .int z)]) hx hb dX4_placeOf_1 rfl hl (by decide) rfl (fun ls hl => ?_)
  have loop : ∀ (r i : Nat), r + i = (sS x).length → (∀ (j : Nat) (e : sE), j < i → (sS x)[j]? = some e → (e.1 : Int) ≠ z.toInt) → ∀ (ls : Array Slot), lv_has ls 3 [(2, .int (nI i)), (0, .ref (u 0)), (1, .int z)] → W p l e (rmk 0 0 0) s m [.ref (u 0), .int z].toArray below meth c s.heap [] 0 0 (MQ below (vp_Si (fun r => r = opI (plc (sS x) z.toInt))) [.ref (u 0), .int z].toArray s 0 0 (fun _ => False)) (F0 m 2 ls []) := by
    intro r
    induction r with
    | zero =>
      intro i h1 hno ls hl
      have hl : lv_has ls 3 [(2, .int (nI i)), (0, .ref (u 0)), (1, .int z)] := hl
      refine lv_iload_n hx hb dX4_placeOf_2 rfl (lv_at hl 0 rfl) ?_
      refine lv_aload_n hx hb dX4_placeOf_3 rfl (lv_at hl 1 rfl) ?_
      refine va_get (D := D) (ci := 4) (v := .int (nI ((sS x).length))) (C := RX4) (T := TX4) (N := 18) hx hb hts hiX4 hown hK hP 0 rfl rfl 15 (by decide) (hts (.fieldLink RX4 101 "StateKeeperModel" "snapshots" "I") (List.mem_of_getElem? (i := 1) rfl)) (fun _ h9 => h9) rfl dX4_placeOf_4 ?_
      refine lv_icmp_ge (tgt := 28) hx hb dX4_placeOf_7 (by decide) (fun c_1 => ?_) (fun c_1 => absurd (nI_le (by omega) (by omega)) c_1)
      refine lv_iconst (v := -1) hx hb dX4_placeOf_28 (by decide) ?_
      have hpn : plc (sS x) z.toInt = none := plc_none (fun e he => by obtain ⟨j, hj⟩ := List.getElem?_of_mem he; exact hno j e (by have := (List.getElem?_eq_some_iff.mp hj).1; omega) hj)
      exact W.iret hx hb hr (fun t9 ht9 _ => ⟨_, rfl, by rw [hpn]; rfl, ht9⟩) (fun _ h => nomatch h) dX4_placeOf_29
    | succ r ih =>
      intro i h1 hno ls hl
      have hl : lv_has ls 3 [(2, .int (nI i)), (0, .ref (u 0)), (1, .int z)] := hl
      obtain ⟨e9, he⟩ : ∃ e9, (sS x)[i]? = some e9 := ⟨_, List.getElem?_eq_getElem (by omega)⟩
      have hb9 := sGood_lt hS2 he
      refine lv_iload_n hx hb dX4_placeOf_2 rfl (lv_at hl 0 rfl) ?_
      refine lv_aload_n hx hb dX4_placeOf_3 rfl (lv_at hl 1 rfl) ?_
      refine va_get (D := D) (ci := 4) (v := .int (nI ((sS x).length))) (C := RX4) (T := TX4) (N := 18) hx hb hts hiX4 hown hK hP 0 rfl rfl 15 (by decide) (hts (.fieldLink RX4 101 "StateKeeperModel" "snapshots" "I") (List.mem_of_getElem? (i := 1) rfl)) (fun _ h9 => h9) rfl dX4_placeOf_4 ?_
      refine lv_icmp_ge (tgt := 28) hx hb dX4_placeOf_7 (by decide) (fun c1 => absurd c1 (nI_ge (by omega) (by omega))) (fun c1 => ?_)
      refine lv_aload_n hx hb dX4_placeOf_10 rfl (lv_at hl 1 rfl) ?_
      refine va_get (D := D) (ci := 4) (v := .ref (u 9)) (C := RX4) (T := TX4) (N := 18) hx hb hts hiX4 hown hK hP 0 rfl rfl 16 (by decide) (hts (.fieldLink RX4 35 "StateKeeperModel" "keptSteps" "[I") (List.mem_of_getElem? (i := 2) rfl)) (fun _ h9 => h9) rfl dX4_placeOf_11 ?_
      refine lv_iload_n hx hb dX4_placeOf_14 rfl (lv_at hl 0 rfl) ?_
      refine lz_iald hx hb hK hP 9 1 rfl rfl (by omega) (by omega) dX4_placeOf_15 ?_
      refine lz_i (y := nI e9.1) (hks i e9 he).1 ?_
      refine lv_iload_n hx hb dX4_placeOf_16 rfl (lv_at hl 2 rfl) ?_
      refine lv_icmp_ne (tgt := 22) hx hb dX4_placeOf_17 (by decide) (fun c_2 => ?_) (fun c_2 => ?_)
      · refine lv_iinc (v := nI (i + 1)) (lv' := [(2, .int (nI (i + 1))), (0, .ref (u 0)), (1, .int z)]) hx hb dX4_placeOf_22 hl (k := 0) rfl (nI_add _ 1) (by decide) rfl (fun ls hl => ?_)
        refine lv_goto (tgt := 2) hx hb dX4_placeOf_25 (by decide) ?_
        exact ih (i + 1) (by omega) (fun j e hj hje => by
          by_cases q : j = i
          · subst q; rw [he] at hje; cases hje; exact fun q => c_2 ((iz_eq (by omega)).mpr q)
          · exact hno j e (by omega) hje) ls (lv_sub hl [0, 1, 2] rfl)
      · refine lv_iload_n hx hb dX4_placeOf_20 rfl (lv_at hl 0 rfl) ?_
        exact W.iret hx hb hr (fun t9 ht9 _ => ⟨_, rfl, by rw [plc_some hS2.1 he ((iz_eq (by omega)).mp c_2)]; rfl, ht9⟩) (fun _ h => nomatch h) dX4_placeOf_21
  exact loop (sS x).length 0 (by omega) (fun j e hj _ => by omega) ls hl

set_option maxRecDepth 100000 in
set_option maxHeartbeats 4000000 in
/-- highest(step) -/
theorem c_X4_highest {z : Int32} (hS2 : sGood (sS x)) (hw : WM cI cF u n ev th R x w) : Met l yX4_highest wsX4_highest (rmk 0 0 0) (pcW l D cI cF cQ aT [.ref (u 0), .int z] w sz) (vp_Si (fun r => r = nI (hsn (sS x) z.toInt) - 1)) 0 0 (fun _ => False) := by
  obtain ⟨r1, r2, r3, f1, f2, f3, f4, k1, kc, hdr, hrec, hks, rfl⟩ := id hw
  refine lz_ofR (cc := cX4_highest) (maxL := 4) (ret := (some .int)) (by decide) rfl (Nat.le_of_ble_eq_true rfl) ?_
  intro p e s m below meth c A hx hb hr hlk hC hP hD hS ls hl
  have hts := hC.1.2.2.2.2
  have hown : s.vm.findClass RX4 = some m.cls := hC.1.2.2.2.1
  have hml := hC.1.2.2.1
  have hA := hC.2.1
  have hK := hC.2.2.2.1
  have hnm := hC.2.2.2.2.1
  have hnf := hC.2.2.2.2.2.1
  have hiX4 : ∀ w ∈ u_ws RX4 TX4 18, w ∈ wsX4_highest := fun _ h => List.mem_cons_of_mem _ (List.mem_append_right _ h)
  have hl : lv_has ls 4 [(0, .ref (u 0)), (1, .int z)] := hl
  have hS8 := hS2.2.1
  have hhl := hsn_le (sS x) z.toInt
  refine lv_iconst (v := -1) hx hb dX4_highest_0 (by decide) ?_
  refine lv_istore_n (lv' := [(2, .int (-1)), (0, .ref (u 0)), (1, .int z)]) hx hb dX4_highest_1 rfl hl (by decide) rfl (fun ls hl => ?_)
  refine lv_iconst (v := nI 0) hx hb dX4_highest_2 (by decide) ?_
  refine lv_istore_n (lv' := [(3, .int (nI 0)), (2, .int (-1)), (0, .ref (u 0)), (1, .int z)]) hx hb dX4_highest_3 rfl hl (by decide) rfl (fun ls hl => ?_)
  have loop : ∀ (r i : Nat), r + i = (sS x).length → ∀ y : Int32, y = nI (min i (hsn (sS x) z.toInt)) - 1 → ∀ (ls : Array Slot), lv_has ls 4 [(3, .int (nI i)), (2, .int y), (0, .ref (u 0)), (1, .int z)] → W p l e (rmk 0 0 0) s m [.ref (u 0), .int z].toArray below meth c s.heap [] 0 0 (MQ below (vp_Si (fun r => r = nI (hsn (sS x) z.toInt) - 1)) [.ref (u 0), .int z].toArray s 0 0 (fun _ => False)) (F0 m 4 ls []) := by
    intro r
    induction r with
    | zero =>
      intro i h1 y hy ls hl
      have hl : lv_has ls 4 [(3, .int (nI i)), (2, .int y), (0, .ref (u 0)), (1, .int z)] := hl
      refine lv_iload_n hx hb dX4_highest_4 rfl (lv_at hl 0 rfl) ?_
      refine lv_aload_n hx hb dX4_highest_5 rfl (lv_at hl 2 rfl) ?_
      refine va_get (D := D) (ci := 4) (v := .int (nI ((sS x).length))) (C := RX4) (T := TX4) (N := 18) hx hb hts hiX4 hown hK hP 0 rfl rfl 15 (by decide) (hts (.fieldLink RX4 101 "StateKeeperModel" "snapshots" "I") (List.mem_of_getElem? (i := 1) rfl)) (fun _ h9 => h9) rfl dX4_highest_6 ?_
      refine lv_icmp_ge (tgt := 34) hx hb dX4_highest_9 (by decide) (fun c_1 => ?_) (fun c_1 => absurd (nI_le (by omega) (by omega)) c_1)
      refine lv_iload_n hx hb dX4_highest_34 rfl (lv_at hl 1 rfl) ?_
      exact W.iret hx hb hr (fun t9 ht9 _ => ⟨_, rfl, by rw [hy, Nat.min_eq_right (by omega)], ht9⟩) (fun _ h => nomatch h) dX4_highest_35
    | succ r ih =>
      intro i h1 y hy ls hl
      have hl : lv_has ls 4 [(3, .int (nI i)), (2, .int y), (0, .ref (u 0)), (1, .int z)] := hl
      obtain ⟨e9, he⟩ : ∃ e9, (sS x)[i]? = some e9 := ⟨_, List.getElem?_eq_getElem (by omega)⟩
      have hb9 := sGood_lt hS2 he
      have hif := hsn_iff hS2.1 (b := z.toInt) he
      refine lv_iload_n hx hb dX4_highest_4 rfl (lv_at hl 0 rfl) ?_
      refine lv_aload_n hx hb dX4_highest_5 rfl (lv_at hl 2 rfl) ?_
      refine va_get (D := D) (ci := 4) (v := .int (nI ((sS x).length))) (C := RX4) (T := TX4) (N := 18) hx hb hts hiX4 hown hK hP 0 rfl rfl 15 (by decide) (hts (.fieldLink RX4 101 "StateKeeperModel" "snapshots" "I") (List.mem_of_getElem? (i := 1) rfl)) (fun _ h9 => h9) rfl dX4_highest_6 ?_
      refine lv_icmp_ge (tgt := 34) hx hb dX4_highest_9 (by decide) (fun c1 => absurd c1 (nI_ge (by omega) (by omega))) (fun c1 => ?_)
      refine lv_aload_n hx hb dX4_highest_12 rfl (lv_at hl 2 rfl) ?_
      refine va_get (D := D) (ci := 4) (v := .ref (u 9)) (C := RX4) (T := TX4) (N := 18) hx hb hts hiX4 hown hK hP 0 rfl rfl 16 (by decide) (hts (.fieldLink RX4 35 "StateKeeperModel" "keptSteps" "[I") (List.mem_of_getElem? (i := 2) rfl)) (fun _ h9 => h9) rfl dX4_highest_13 ?_
      refine lv_iload_n hx hb dX4_highest_16 rfl (lv_at hl 0 rfl) ?_
      refine lz_iald hx hb hK hP 9 1 rfl rfl (by omega) (by omega) dX4_highest_17 ?_
      refine lz_i (y := nI e9.1) (hks i e9 he).1 ?_
      refine lv_iload_n hx hb dX4_highest_18 rfl (lv_at hl 3 rfl) ?_
      refine lv_icmp_gt (tgt := 26) hx hb dX4_highest_19 (by decide) (fun c_2 => ?_) (fun c_2 => ?_)
      · have hh : ¬ i < hsn (sS x) z.toInt := fun q => absurd ((Int32.lt_iff_toInt_lt).mp c_2) (by have := hif.mpr q; rw [nI_toInt (by omega)]; omega)
        refine lv_iload_n hx hb dX4_highest_26 rfl (lv_at hl 1 rfl) ?_
        refine lv_istore_n (lv' := [(2, .int y), (3, .int (nI i)), (0, .ref (u 0)), (1, .int z)]) hx hb dX4_highest_27 rfl hl (by decide) rfl (fun ls hl => ?_)
        refine lv_iinc (v := nI (i + 1)) (lv' := [(3, .int (nI (i + 1))), (2, .int y), (0, .ref (u 0)), (1, .int z)]) hx hb dX4_highest_28 hl (k := 1) rfl (nI_add _ 1) (by decide) rfl (fun ls hl => ?_)
        refine lv_goto (tgt := 4) hx hb dX4_highest_31 (by decide) ?_
        exact ih (i + 1) (by omega) y (by rw [hy, Nat.min_eq_right (by omega), Nat.min_eq_right (by omega)]) ls (lv_sub hl [0, 1, 2, 3] rfl)
      · have hh : i < hsn (sS x) z.toInt := hif.mp (by have := mt (Int32.lt_iff_toInt_lt).mpr c_2; rw [nI_toInt (by omega)] at this; omega)
        refine lv_iload_n hx hb dX4_highest_22 rfl (lv_at hl 0 rfl) ?_
        refine lv_goto (tgt := 27) hx hb dX4_highest_23 (by decide) ?_
        refine lv_istore_n (lv' := [(2, .int (nI i)), (3, .int (nI i)), (0, .ref (u 0)), (1, .int z)]) hx hb dX4_highest_27 rfl hl (by decide) rfl (fun ls hl => ?_)
        refine lv_iinc (v := nI (i + 1)) (lv' := [(3, .int (nI (i + 1))), (2, .int (nI i)), (0, .ref (u 0)), (1, .int z)]) hx hb dX4_highest_28 hl (k := 1) rfl (nI_add _ 1) (by decide) rfl (fun ls hl => ?_)
        refine lv_goto (tgt := 4) hx hb dX4_highest_31 (by decide) ?_
        exact ih (i + 1) (by omega) (nI i) (by rw [Nat.min_eq_left (by omega)]; exact (pk_sub (a := i + 1) (b := 1) (by omega)).symm) ls (lv_sub hl [0, 1, 2, 3] rfl)
  exact loop (sS x).length 0 (by omega) (-1) (by rw [Nat.zero_min]; rfl) ls hl

set_option maxRecDepth 100000 in
set_option maxHeartbeats 4000000 in
/-- find(step, k) -/
theorem c_X4_find {z q : Int32} (hL : rIn n (sL x)) (hw : WM cI cF u n ev th R x w) : Met l yX4_find wsX4_find (rmk 0 0 0) (pcW l D cI cF cQ aT [.ref (u 0), .int z, .int q] w sz) (vp_Si (fun r => ((0 ≤ q.toInt ∧ q.toInt < (cq (sL x) z.toInt : Int)) ∧ ∃ j, (sL x)[j]? = some (rget (sL x) z.toInt (tn q)) ∧ r = nI j) ∨ (¬ (0 ≤ q.toInt ∧ q.toInt < (cq (sL x) z.toInt : Int)) ∧ r = -1))) 0 0 (fun _ => False) := by
  obtain ⟨r1, r2, r3, f1, f2, f3, f4, k1, kc, hdr, hrec, hks, rfl⟩ := id hw
  refine lz_ofR (cc := cX4_find) (maxL := 5) (ret := (some .int)) (by decide) rfl (Nat.le_of_ble_eq_true rfl) ?_
  intro p e s m below meth c A hx hb hr hlk hC hP hD hS ls hl
  have hts := hC.1.2.2.2.2
  have hown : s.vm.findClass RX4 = some m.cls := hC.1.2.2.2.1
  have hml := hC.1.2.2.1
  have hA := hC.2.1
  have hK := hC.2.2.2.1
  have hnm := hC.2.2.2.2.1
  have hnf := hC.2.2.2.2.2.1
  have hiX4 : ∀ w ∈ u_ws RX4 TX4 18, w ∈ wsX4_find := fun _ h => List.mem_cons_of_mem _ (List.mem_append_right _ h)
  have hl : lv_has ls 5 [(0, .ref (u 0)), (1, .int z), (2, .int q)] := hl
  have hL8 := hL.1
  refine lv_iload_n hx hb dX4_find_0 rfl (lv_at hl 2 rfl) ?_
  refine lv_istore_n (lv' := [(3, .int q), (0, .ref (u 0)), (1, .int z), (2, .int q)]) hx hb dX4_find_1 rfl hl (by decide) rfl (fun ls hl => ?_)
  refine lv_iconst (v := nI 0) hx hb dX4_find_2 (by decide) ?_
  refine lv_istore (lv' := [(4, .int (nI 0)), (3, .int q), (0, .ref (u 0)), (1, .int z), (2, .int q)]) hx hb dX4_find_3 hl (by decide) rfl (fun ls hl => ?_)
  have loop : ∀ (r i : Nat), r + i = (sL x).length → ∀ y : Int32, (0 ≤ q.toInt → y.toInt = q.toInt - (cq ((sL x).take i) z.toInt : Int) ∧ (cq ((sL x).take i) z.toInt : Int) ≤ q.toInt) → ∀ (ls : Array Slot), lv_has ls 5 [(4, .int (nI i)), (3, .int y), (0, .ref (u 0)), (1, .int z), (2, .int q)] → W p l e (rmk 0 0 0) s m [.ref (u 0), .int z, .int q].toArray below meth c s.heap [] 0 0 (MQ below (vp_Si (fun r => ((0 ≤ q.toInt ∧ q.toInt < (cq (sL x) z.toInt : Int)) ∧ ∃ j, (sL x)[j]? = some (rget (sL x) z.toInt (tn q)) ∧ r = nI j) ∨ (¬ (0 ≤ q.toInt ∧ q.toInt < (cq (sL x) z.toInt : Int)) ∧ r = -1))) [.ref (u 0), .int z, .int q].toArray s 0 0 (fun _ => False)) (F0 m 5 ls []) := by
    intro r
    induction r with
    | zero =>
      intro i h1 y hy ls hl
      have hl : lv_has ls 5 [(4, .int (nI i)), (3, .int y), (0, .ref (u 0)), (1, .int z), (2, .int q)] := hl
      refine lv_iload hx hb dX4_find_5 (lv_at hl 0 rfl) ?_
      refine lv_aload_n hx hb dX4_find_7 rfl (lv_at hl 2 rfl) ?_
      refine va_get (D := D) (ci := 4) (v := .int (nI ((sL x).length))) (C := RX4) (T := TX4) (N := 18) hx hb hts hiX4 hown hK hP 0 rfl rfl 10 (by decide) (hts (.fieldLink RX4 65 "StateKeeperModel" "inputs" "I") (List.mem_of_getElem? (i := 1) rfl)) (fun _ h9 => h9) rfl dX4_find_8 ?_
      refine lv_icmp_ge (tgt := 50) hx hb dX4_find_11 (by decide) (fun c_1 => ?_) (fun c_1 => absurd (nI_le (by omega) (by omega)) c_1)
      refine lv_iconst (v := -1) hx hb dX4_find_50 (by decide) ?_
      have hi2 : i = (sL x).length := by omega
      rw [hi2, List.take_length] at hy
      exact W.iret hx hb hr (fun t9 ht9 _ => ⟨_, rfl, Or.inr ⟨fun q9 => by have := hy q9.1; omega, rfl⟩, ht9⟩) (fun _ h => nomatch h) dX4_find_51
    | succ r ih =>
      intro i h1 y hy ls hl
      have hl : lv_has ls 5 [(4, .int (nI i)), (3, .int y), (0, .ref (u 0)), (1, .int z), (2, .int q)] := hl
      obtain ⟨e9, he⟩ : ∃ e9, (sL x)[i]? = some e9 := ⟨_, List.getElem?_eq_getElem (by omega)⟩
      have hin9 := hL.2 e9 (List.mem_of_getElem? he)
      have hcs : cq ((sL x).take (i + 1)) z.toInt = cq ((sL x).take i) z.toInt + if (e9.1 : Int) = z.toInt then 1 else 0 := by rw [take_s he, cq_app, cq_1]
      have hcl := cq_le ((sL x).take i) z.toInt
      rw [List.length_take] at hcl
      refine lv_iload hx hb dX4_find_5 (lv_at hl 0 rfl) ?_
      refine lv_aload_n hx hb dX4_find_7 rfl (lv_at hl 2 rfl) ?_
      refine va_get (D := D) (ci := 4) (v := .int (nI ((sL x).length))) (C := RX4) (T := TX4) (N := 18) hx hb hts hiX4 hown hK hP 0 rfl rfl 10 (by decide) (hts (.fieldLink RX4 65 "StateKeeperModel" "inputs" "I") (List.mem_of_getElem? (i := 1) rfl)) (fun _ h9 => h9) rfl dX4_find_8 ?_
      refine lv_icmp_ge (tgt := 50) hx hb dX4_find_11 (by decide) (fun c1 => absurd c1 (nI_ge (by omega) (by omega))) (fun c1 => ?_)
      refine lv_iload_n hx hb dX4_find_14 rfl (lv_at hl 4 rfl) ?_
      refine lv_if_lt (tgt := 50) hx hb dX4_find_15 (by decide) (fun c_2 => ?_) (fun c_2 => ?_)
      · refine lv_iconst (v := -1) hx hb dX4_find_50 (by decide) ?_
        exact W.iret hx hb hr (fun t9 ht9 _ => ⟨_, rfl, Or.inr ⟨fun q9 => absurd (iz_lt0.mp c_2) (by omega), rfl⟩, ht9⟩) (fun _ h => nomatch h) dX4_find_51
      · have h0 : 0 ≤ q.toInt := by have := mt iz_lt0.mpr c_2; omega
        obtain ⟨hy1, hy2⟩ := hy h0
        refine lv_aload_n hx hb dX4_find_18 rfl (lv_at hl 2 rfl) ?_
        refine va_get (D := D) (ci := 4) (v := .ref (u 5)) (C := RX4) (T := TX4) (N := 18) hx hb hts hiX4 hown hK hP 0 rfl rfl 11 (by decide) (hts (.fieldLink RX4 23 "StateKeeperModel" "steps" "[I") (List.mem_of_getElem? (i := 2) rfl)) (fun _ h9 => h9) rfl dX4_find_19 ?_
        refine lv_iload hx hb dX4_find_22 (lv_at hl 0 rfl) ?_
        refine lz_iald hx hb hK hP 5 1 rfl rfl (by omega) (by omega) dX4_find_24 ?_
        refine lz_i (y := nI e9.1) (hrec i e9 he).1 ?_
        refine lv_iload_n hx hb dX4_find_25 rfl (lv_at hl 3 rfl) ?_
        refine lv_icmp_ne (tgt := 35) hx hb dX4_find_26 (by decide) (fun c_3 => ?_) (fun c_3 => ?_)
        · rw [if_neg (fun q => c_3 ((iz_eq (by omega)).mpr q))] at hcs
          refine lv_iload_n hx hb dX4_find_35 rfl (lv_at hl 1 rfl) ?_
          refine lv_istore_n (lv' := [(3, .int y), (4, .int (nI i)), (0, .ref (u 0)), (1, .int z), (2, .int q)]) hx hb dX4_find_36 rfl hl (by decide) rfl (fun ls hl => ?_)
          refine lv_iload_n hx hb dX4_find_37 rfl (lv_at hl 0 rfl) ?_
          refine lv_if_ge (tgt := 44) hx hb dX4_find_38 (by decide) (fun c_4 => ?_) (fun c_4 => absurd (iz_ge0.mpr (by omega)) c_4)
          refine lv_iinc (v := nI (i + 1)) (lv' := [(4, .int (nI (i + 1))), (3, .int y), (0, .ref (u 0)), (1, .int z), (2, .int q)]) hx hb dX4_find_44 hl (k := 1) rfl (nI_add _ 1) (by decide) rfl (fun ls hl => ?_)
          refine lv_goto (tgt := 5) hx hb dX4_find_47 (by decide) ?_
          exact ih (i + 1) (by omega) y (fun _ => by rw [hcs]; exact ⟨hy1, hy2⟩) ls (lv_sub hl [0, 1, 2, 3, 4] rfl)
        · have hz9 := (iz_eq (by omega)).mp c_3
          rw [if_pos hz9] at hcs
          refine lv_iload_n hx hb dX4_find_29 rfl (lv_at hl 1 rfl) ?_
          refine lv_iconst (v := nI 1) hx hb dX4_find_30 (by decide) ?_
          refine lv_isub hx hb dX4_find_31 ?_
          refine lv_goto (tgt := 36) hx hb dX4_find_32 (by decide) ?_
          have hq9 := iz_max q
          have hy3 : (y - nI 1).toInt = q.toInt - (cq ((sL x).take i) z.toInt : Int) - 1 := by rw [Int32.toInt_sub, hy1, nI_toInt (by omega)]; exact Int.bmod_eq_of_le (by omega) (by omega)
          refine lv_istore_n (lv' := [(3, .int (y - (nI 1))), (4, .int (nI i)), (0, .ref (u 0)), (1, .int z), (2, .int q)]) hx hb dX4_find_36 rfl hl (by decide) rfl (fun ls hl => ?_)
          refine lv_iload_n hx hb dX4_find_37 rfl (lv_at hl 0 rfl) ?_
          refine lv_if_ge (tgt := 44) hx hb dX4_find_38 (by decide) (fun c_5 => ?_) (fun c_5 => ?_)
          · have h4 := iz_ge0.mp c_5
            rw [hy3] at h4
            refine lv_iinc (v := nI (i + 1)) (lv' := [(4, .int (nI (i + 1))), (3, .int (y - (nI 1))), (0, .ref (u 0)), (1, .int z), (2, .int q)]) hx hb dX4_find_44 hl (k := 1) rfl (nI_add _ 1) (by decide) rfl (fun ls hl => ?_)
            refine lv_goto (tgt := 5) hx hb dX4_find_47 (by decide) ?_
            exact ih (i + 1) (by omega) (y - nI 1) (fun _ => by rw [hcs, hy3]; omega) ls (lv_sub hl [0, 1, 2, 3, 4] rfl)
          · have h4 : q.toInt = (cq ((sL x).take i) z.toInt : Int) := by have := mt iz_ge0.mpr c_5; rw [hy3] at this; omega
            have h5 : cq (sL x) z.toInt = cq ((sL x).take (i + 1)) z.toInt + cq ((sL x).drop (i + 1)) z.toInt := by rw [← cq_app, List.take_append_drop]
            refine lv_iload hx hb dX4_find_41 (lv_at hl 1 rfl) ?_
            exact W.iret hx hb hr (fun t9 ht9 _ => ⟨_, rfl, Or.inl ⟨⟨h0, by omega⟩, i, by rw [show tn q = cq ((sL x).take i) z.toInt by show q.toInt.toNat = _; omega, ← rget_at he hz9]; exact he, rfl⟩, ht9⟩) (fun _ h => nomatch h) dX4_find_43
  exact loop (sL x).length 0 (by omega) q (fun h0 => by show q.toInt = q.toInt - ((0 : Nat) : Int) ∧ ((0 : Nat) : Int) ≤ q.toInt; omega) ls hl

set_option maxRecDepth 100000 in
set_option maxHeartbeats 4000000 in
/-- moveDown() -/
theorem c_X4_moveDown (hS0 : 0 < (sS x).length) (hS16 : (sS x).length ≤ 16) (hn : n ≤ 256) (hw : WM cI cF u n ev th R x w) : Met l yX4_moveDown wsX4_moveDown (rmk 0 0 0) (pcW l D cI cF cQ aT [.ref (u 0)] w sz) (va_Qv (fun (w1 : va_W) => WM cI cF u n ev th R (sc x, sT x, sd x, sL x, (sS x).tail) w1) (fun w1 t => va_P D vwCl w1 t.heap) (va_A w sz)) 0 0 (va_A w sz) := by
  obtain ⟨r1, r2, r3, f1, f2, f3, f4, k1, kc, hdr, hrec, hks, rfl⟩ := id hw
  refine lz_ofM (Qf := fun A => va_Qv (fun (w1 : va_W) => WM cI cF u n ev th R (sc x, sT x, sd x, sL x, (sS x).tail) w1) (fun w1 t => va_P D vwCl w1 t.heap) A) (cc := cX4_moveDown) (maxL := 3) (ret := none) (by decide) rfl (Nat.le_of_ble_eq_true rfl) ?_
  intro p e s m below meth c A hAe hsz hx hb hr hlk hin hC hP hD hS ls hl
  clear hAe
  have hts := hC.1.2.2.2.2
  have hown : s.vm.findClass RX4 = some m.cls := hC.1.2.2.2.1
  have hml := hC.1.2.2.1
  have hA := hC.2.1
  have hK := hC.2.2.2.1
  have hnm := hC.2.2.2.2.1
  have hnf := hC.2.2.2.2.2.1
  have hiX4 : ∀ w ∈ u_ws RX4 TX4 18, w ∈ wsX4_moveDown := fun _ h => List.mem_cons_of_mem _ (List.mem_append_right _ h)
  have hl : lv_has ls 3 [(0, .ref (u 0))] := hl
  refine lv_iconst (v := nI 0) hx hb dX4_moveDown_0 (by decide) ?_
  refine lv_istore_n (lv' := [(1, .int (nI 0)), (0, .ref (u 0))]) hx hb dX4_moveDown_1 rfl hl (by decide) rfl (fun ls hl => ?_)
  have loop : ∀ (r i : Nat), r + i = (sS x).length - 1 → ∀ (m1 : Nat → Int32) (m2 : Nat → UInt32), ksMv n (sS x) i m1 m2 → ∀ (H : Heap) (locs : List Loc) (ls : Array Slot), va_P D vwCl ([((u 0), .inr (4, [.int th, .int (nI n), .ref (u 1), .int (nI (sT x)), .int (nI ev), .int (sd x), .int (nI R.length), .ref (u 2), .ref (u 3), .ref (u 4), .int (nI ((sL x).length)), .ref (u 5), .ref (u 6), .ref (u 7), .ref (u 8), .int (nI ((sS x).length)), .ref (u 9), .ref (u 10)])), ((u 1), .inl (cF, 256, .inr (.inr (.inl (sc x))))), ((u 2), .inl (cI, 64, .inl r1)), ((u 3), .inl (cI, 64, .inl r2)), ((u 4), .inl (cF, 64, .inr (.inr (.inl r3)))), ((u 5), .inl (cI, 512, .inl f1)), ((u 6), .inl (cI, 512, .inl f2)), ((u 7), .inl (cI, 512, .inl f3)), ((u 8), .inl (cF, 512, .inr (.inr (.inl f4)))), ((u 9), .inl (cI, 16, .inl m1)), ((u 10), .inl (cF, 4096, .inr (.inr (.inl m2))))]) H → va_D A ([((u 0), .inr (4, [.int th, .int (nI n), .ref (u 1), .int (nI (sT x)), .int (nI ev), .int (sd x), .int (nI R.length), .ref (u 2), .ref (u 3), .ref (u 4), .int (nI ((sL x).length)), .ref (u 5), .ref (u 6), .ref (u 7), .ref (u 8), .int (nI ((sS x).length)), .ref (u 9), .ref (u 10)])), ((u 1), .inl (cF, 256, .inr (.inr (.inl (sc x))))), ((u 2), .inl (cI, 64, .inl r1)), ((u 3), .inl (cI, 64, .inl r2)), ((u 4), .inl (cF, 64, .inr (.inr (.inl r3)))), ((u 5), .inl (cI, 512, .inl f1)), ((u 6), .inl (cI, 512, .inl f2)), ((u 7), .inl (cI, 512, .inl f3)), ((u 8), .inl (cF, 512, .inr (.inr (.inl f4)))), ((u 9), .inl (cI, 16, .inl m1)), ((u 10), .inl (cF, 4096, .inr (.inr (.inl m2))))]) → va_S A s.heap H locs → lv_has ls 3 [(1, .int (nI i)), (0, .ref (u 0))] → W p l e (rmk 0 0 0) s m [.ref (u 0)].toArray below meth c H locs 0 0 (MQ below (va_Qv (fun (w1 : va_W) => WM cI cF u n ev th R (sc x, sT x, sd x, sL x, (sS x).tail) w1) (fun w1 t => va_P D vwCl w1 t.heap) A) [.ref (u 0)].toArray s 0 0 A) (F0 m 2 ls []) := by
    intro r
    induction r with
    | zero =>
      intro i h1 m1 m2 hM H locs ls hP hD hS hl
      have hl : lv_has ls 3 [(1, .int (nI i)), (0, .ref (u 0))] := hl
      have hP : va_P D vwCl ([((u 0), .inr (4, [.int th, .int (nI n), .ref (u 1), .int (nI (sT x)), .int (nI ev), .int (sd x), .int (nI R.length), .ref (u 2), .ref (u 3), .ref (u 4), .int (nI ((sL x).length)), .ref (u 5), .ref (u 6), .ref (u 7), .ref (u 8), .int (nI ((sS x).length)), .ref (u 9), .ref (u 10)])), ((u 1), .inl (cF, 256, .inr (.inr (.inl (sc x))))), ((u 2), .inl (cI, 64, .inl r1)), ((u 3), .inl (cI, 64, .inl r2)), ((u 4), .inl (cF, 64, .inr (.inr (.inl r3)))), ((u 5), .inl (cI, 512, .inl f1)), ((u 6), .inl (cI, 512, .inl f2)), ((u 7), .inl (cI, 512, .inl f3)), ((u 8), .inl (cF, 512, .inr (.inr (.inl f4)))), ((u 9), .inl (cI, 16, .inl m1)), ((u 10), .inl (cF, 4096, .inr (.inr (.inl m2))))]) H := hP
      have hD : va_D A ([((u 0), .inr (4, [.int th, .int (nI n), .ref (u 1), .int (nI (sT x)), .int (nI ev), .int (sd x), .int (nI R.length), .ref (u 2), .ref (u 3), .ref (u 4), .int (nI ((sL x).length)), .ref (u 5), .ref (u 6), .ref (u 7), .ref (u 8), .int (nI ((sS x).length)), .ref (u 9), .ref (u 10)])), ((u 1), .inl (cF, 256, .inr (.inr (.inl (sc x))))), ((u 2), .inl (cI, 64, .inl r1)), ((u 3), .inl (cI, 64, .inl r2)), ((u 4), .inl (cF, 64, .inr (.inr (.inl r3)))), ((u 5), .inl (cI, 512, .inl f1)), ((u 6), .inl (cI, 512, .inl f2)), ((u 7), .inl (cI, 512, .inl f3)), ((u 8), .inl (cF, 512, .inr (.inr (.inl f4)))), ((u 9), .inl (cI, 16, .inl m1)), ((u 10), .inl (cF, 4096, .inr (.inr (.inl m2))))]) := hD
      refine lv_iload_n hx hb dX4_moveDown_2 rfl (lv_at hl 0 rfl) ?_
      refine lv_iconst (v := nI 1) hx hb dX4_moveDown_3 (by decide) ?_
      refine lv_iadd hx hb dX4_moveDown_4 ?_
      refine lz_i (nI_add _ _) ?_
      refine lv_aload_n hx hb dX4_moveDown_5 rfl (lv_at hl 1 rfl) ?_
      refine va_get (D := D) (ci := 4) (v := .int (nI ((sS x).length))) (C := RX4) (T := TX4) (N := 18) hx hb hts hiX4 hown hK hP 0 rfl rfl 15 (by decide) (hts (.fieldLink RX4 101 "StateKeeperModel" "snapshots" "I") (List.mem_of_getElem? (i := 1) rfl)) (fun _ h9 => h9) rfl dX4_moveDown_6 ?_
      refine lv_icmp_ge (tgt := 76) hx hb dX4_moveDown_9 (by decide) (fun c_1 => ?_) (fun c_1 => absurd (nI_le (by omega) (by omega)) c_1)
      refine lv_aload_n hx hb dX4_moveDown_76 rfl (lv_at hl 1 rfl) ?_
      refine lv_dup hx hb dX4_moveDown_77 rfl ?_
      refine va_get (D := D) (ci := 4) (v := .int (nI ((sS x).length))) (C := RX4) (T := TX4) (N := 18) hx hb hts hiX4 hown hK hP 0 rfl rfl 15 (by decide) (hts (.fieldLink RX4 101 "StateKeeperModel" "snapshots" "I") (List.mem_of_getElem? (i := 1) rfl)) (fun _ h9 => h9) rfl dX4_moveDown_78 ?_
      refine lv_iconst (v := nI 1) hx hb dX4_moveDown_81 (by decide) ?_
      refine lv_isub hx hb dX4_moveDown_82 ?_
      refine lz_i (pk_sub (by omega)) ?_
      refine va_put (D := D) (ci := 4) (v := .int (nI (((sS x).length) - 1))) (ty := .int) (C := RX4) (T := TX4) (N := 18) hx hb hts hiX4 tyX4 tyX4_ok nmX4 hown hK hP hD hS 0 rfl rfl 15 (by decide) (hts (.fieldLink RX4 101 "StateKeeperModel" "snapshots" "I") (List.mem_of_getElem? (i := 1) rfl)) (fun _ h9 => h9) rfl (by decide +kernel) rfl rfl (Nat.le_of_ble_eq_true rfl) dX4_moveDown_83 (fun H locs hP hD hS => ?_)
      have hP : va_P D vwCl ([((u 0), .inr (4, [.int th, .int (nI n), .ref (u 1), .int (nI (sT x)), .int (nI ev), .int (sd x), .int (nI R.length), .ref (u 2), .ref (u 3), .ref (u 4), .int (nI ((sL x).length)), .ref (u 5), .ref (u 6), .ref (u 7), .ref (u 8), .int (nI (((sS x).length) - 1)), .ref (u 9), .ref (u 10)])), ((u 1), .inl (cF, 256, .inr (.inr (.inl (sc x))))), ((u 2), .inl (cI, 64, .inl r1)), ((u 3), .inl (cI, 64, .inl r2)), ((u 4), .inl (cF, 64, .inr (.inr (.inl r3)))), ((u 5), .inl (cI, 512, .inl f1)), ((u 6), .inl (cI, 512, .inl f2)), ((u 7), .inl (cI, 512, .inl f3)), ((u 8), .inl (cF, 512, .inr (.inr (.inl f4)))), ((u 9), .inl (cI, 16, .inl m1)), ((u 10), .inl (cF, 4096, .inr (.inr (.inl m2))))]) H := hP
      have hD : va_D A ([((u 0), .inr (4, [.int th, .int (nI n), .ref (u 1), .int (nI (sT x)), .int (nI ev), .int (sd x), .int (nI R.length), .ref (u 2), .ref (u 3), .ref (u 4), .int (nI ((sL x).length)), .ref (u 5), .ref (u 6), .ref (u 7), .ref (u 8), .int (nI (((sS x).length) - 1)), .ref (u 9), .ref (u 10)])), ((u 1), .inl (cF, 256, .inr (.inr (.inl (sc x))))), ((u 2), .inl (cI, 64, .inl r1)), ((u 3), .inl (cI, 64, .inl r2)), ((u 4), .inl (cF, 64, .inr (.inr (.inl r3)))), ((u 5), .inl (cI, 512, .inl f1)), ((u 6), .inl (cI, 512, .inl f2)), ((u 7), .inl (cI, 512, .inl f3)), ((u 8), .inl (cF, 512, .inr (.inr (.inl f4)))), ((u 9), .inl (cI, 16, .inl m1)), ((u 10), .inl (cF, 4096, .inr (.inr (.inl m2))))]) := hD
      exact W.vret hx hb hr (fun t9 ht9 _ => ⟨⟨[((u 0), .inr (4, [.int th, .int (nI n), .ref (u 1), .int (nI (sT x)), .int (nI ev), .int (sd x), .int (nI R.length), .ref (u 2), .ref (u 3), .ref (u 4), .int (nI ((sL x).length)), .ref (u 5), .ref (u 6), .ref (u 7), .ref (u 8), .int (nI (((sS x).length) - 1)), .ref (u 9), .ref (u 10)])), ((u 1), .inl (cF, 256, .inr (.inr (.inl (sc x))))), ((u 2), .inl (cI, 64, .inl r1)), ((u 3), .inl (cI, 64, .inl r2)), ((u 4), .inl (cF, 64, .inr (.inr (.inl r3)))), ((u 5), .inl (cI, 512, .inl f1)), ((u 6), .inl (cI, 512, .inl f2)), ((u 7), .inl (cI, 512, .inl f3)), ((u 8), .inl (cF, 512, .inr (.inr (.inl f4)))), ((u 9), .inl (cI, 16, .inl m1)), ((u 10), .inl (cF, 4096, .inr (.inr (.inl m2))))], rfl, ⟨_, _, _, _, _, _, _, _, _, hdr, hrec, fun j e9 hj => hM.1 j e9 (by have := (List.getElem?_eq_some_iff.mp hj).1; rw [List.length_tail] at this; omega) (by rw [← List.getElem?_tail]; exact hj), by rw [show (sS (sc x, sT x, sd x, sL x, (sS x).tail)).length = (sS x).length - 1 from List.length_tail]⟩, by show va_P D vwCl _ t9.heap; rw [ht9]; exact hP⟩, hS.F ht9⟩) hS.2.2 dX4_moveDown_86
    | succ r ih =>
      intro i h1 m1 m2 hM H locs ls hP hD hS hl
      have hl : lv_has ls 3 [(1, .int (nI i)), (0, .ref (u 0))] := hl
      have hP : va_P D vwCl ([((u 0), .inr (4, [.int th, .int (nI n), .ref (u 1), .int (nI (sT x)), .int (nI ev), .int (sd x), .int (nI R.length), .ref (u 2), .ref (u 3), .ref (u 4), .int (nI ((sL x).length)), .ref (u 5), .ref (u 6), .ref (u 7), .ref (u 8), .int (nI ((sS x).length)), .ref (u 9), .ref (u 10)])), ((u 1), .inl (cF, 256, .inr (.inr (.inl (sc x))))), ((u 2), .inl (cI, 64, .inl r1)), ((u 3), .inl (cI, 64, .inl r2)), ((u 4), .inl (cF, 64, .inr (.inr (.inl r3)))), ((u 5), .inl (cI, 512, .inl f1)), ((u 6), .inl (cI, 512, .inl f2)), ((u 7), .inl (cI, 512, .inl f3)), ((u 8), .inl (cF, 512, .inr (.inr (.inl f4)))), ((u 9), .inl (cI, 16, .inl m1)), ((u 10), .inl (cF, 4096, .inr (.inr (.inl m2))))]) H := hP
      have hD : va_D A ([((u 0), .inr (4, [.int th, .int (nI n), .ref (u 1), .int (nI (sT x)), .int (nI ev), .int (sd x), .int (nI R.length), .ref (u 2), .ref (u 3), .ref (u 4), .int (nI ((sL x).length)), .ref (u 5), .ref (u 6), .ref (u 7), .ref (u 8), .int (nI ((sS x).length)), .ref (u 9), .ref (u 10)])), ((u 1), .inl (cF, 256, .inr (.inr (.inl (sc x))))), ((u 2), .inl (cI, 64, .inl r1)), ((u 3), .inl (cI, 64, .inl r2)), ((u 4), .inl (cF, 64, .inr (.inr (.inl r3)))), ((u 5), .inl (cI, 512, .inl f1)), ((u 6), .inl (cI, 512, .inl f2)), ((u 7), .inl (cI, 512, .inl f3)), ((u 8), .inl (cF, 512, .inr (.inr (.inl f4)))), ((u 9), .inl (cI, 16, .inl m1)), ((u 10), .inl (cF, 4096, .inr (.inr (.inl m2))))]) := hD
      obtain ⟨e9, he⟩ : ∃ e9, (sS x)[i + 1]? = some e9 := ⟨_, List.getElem?_eq_getElem (by omega)⟩
      refine lv_iload_n hx hb dX4_moveDown_2 rfl (lv_at hl 0 rfl) ?_
      refine lv_iconst (v := nI 1) hx hb dX4_moveDown_3 (by decide) ?_
      refine lv_iadd hx hb dX4_moveDown_4 ?_
      refine lz_i (nI_add _ _) ?_
      refine lv_aload_n hx hb dX4_moveDown_5 rfl (lv_at hl 1 rfl) ?_
      refine va_get (D := D) (ci := 4) (v := .int (nI ((sS x).length))) (C := RX4) (T := TX4) (N := 18) hx hb hts hiX4 hown hK hP 0 rfl rfl 15 (by decide) (hts (.fieldLink RX4 101 "StateKeeperModel" "snapshots" "I") (List.mem_of_getElem? (i := 1) rfl)) (fun _ h9 => h9) rfl dX4_moveDown_6 ?_
      refine lv_icmp_ge (tgt := 76) hx hb dX4_moveDown_9 (by decide) (fun c1 => absurd c1 (nI_ge (by omega) (by omega))) (fun c1 => ?_)
      refine lv_aload_n hx hb dX4_moveDown_12 rfl (lv_at hl 1 rfl) ?_
      refine va_get (D := D) (ci := 4) (v := .ref (u 9)) (C := RX4) (T := TX4) (N := 18) hx hb hts hiX4 hown hK hP 0 rfl rfl 16 (by decide) (hts (.fieldLink RX4 35 "StateKeeperModel" "keptSteps" "[I") (List.mem_of_getElem? (i := 2) rfl)) (fun _ h9 => h9) rfl dX4_moveDown_13 ?_
      refine lv_iload_n hx hb dX4_moveDown_16 rfl (lv_at hl 0 rfl) ?_
      refine lv_aload_n hx hb dX4_moveDown_17 rfl (lv_at hl 1 rfl) ?_
      refine va_get (D := D) (ci := 4) (v := .ref (u 9)) (C := RX4) (T := TX4) (N := 18) hx hb hts hiX4 hown hK hP 0 rfl rfl 16 (by decide) (hts (.fieldLink RX4 35 "StateKeeperModel" "keptSteps" "[I") (List.mem_of_getElem? (i := 2) rfl)) (fun _ h9 => h9) rfl dX4_moveDown_18 ?_
      refine lv_iload_n hx hb dX4_moveDown_21 rfl (lv_at hl 0 rfl) ?_
      refine lv_iconst (v := nI 1) hx hb dX4_moveDown_22 (by decide) ?_
      refine lv_iadd hx hb dX4_moveDown_23 ?_
      refine lz_i (nI_add _ _) ?_
      refine lz_iald hx hb hK hP 9 1 rfl rfl (by omega) (by omega) dX4_moveDown_24 ?_
      refine lz_iast hx hb hK hP hD hS 9 1 rfl rfl (by omega) (by omega) dX4_moveDown_25 (fun H locs hP hD hS => ?_)
      have hP : va_P D vwCl ([((u 0), .inr (4, [.int th, .int (nI n), .ref (u 1), .int (nI (sT x)), .int (nI ev), .int (sd x), .int (nI R.length), .ref (u 2), .ref (u 3), .ref (u 4), .int (nI ((sL x).length)), .ref (u 5), .ref (u 6), .ref (u 7), .ref (u 8), .int (nI ((sS x).length)), .ref (u 9), .ref (u 10)])), ((u 1), .inl (cF, 256, .inr (.inr (.inl (sc x))))), ((u 2), .inl (cI, 64, .inl r1)), ((u 3), .inl (cI, 64, .inl r2)), ((u 4), .inl (cF, 64, .inr (.inr (.inl r3)))), ((u 5), .inl (cI, 512, .inl f1)), ((u 6), .inl (cI, 512, .inl f2)), ((u 7), .inl (cI, 512, .inl f3)), ((u 8), .inl (cF, 512, .inr (.inr (.inl f4)))), ((u 9), .inl (cI, 16, .inl (upd m1 i (m1 (i + 1))))), ((u 10), .inl (cF, 4096, .inr (.inr (.inl m2))))]) H := hP
      have hD : va_D A ([((u 0), .inr (4, [.int th, .int (nI n), .ref (u 1), .int (nI (sT x)), .int (nI ev), .int (sd x), .int (nI R.length), .ref (u 2), .ref (u 3), .ref (u 4), .int (nI ((sL x).length)), .ref (u 5), .ref (u 6), .ref (u 7), .ref (u 8), .int (nI ((sS x).length)), .ref (u 9), .ref (u 10)])), ((u 1), .inl (cF, 256, .inr (.inr (.inl (sc x))))), ((u 2), .inl (cI, 64, .inl r1)), ((u 3), .inl (cI, 64, .inl r2)), ((u 4), .inl (cF, 64, .inr (.inr (.inl r3)))), ((u 5), .inl (cI, 512, .inl f1)), ((u 6), .inl (cI, 512, .inl f2)), ((u 7), .inl (cI, 512, .inl f3)), ((u 8), .inl (cF, 512, .inr (.inr (.inl f4)))), ((u 9), .inl (cI, 16, .inl (upd m1 i (m1 (i + 1))))), ((u 10), .inl (cF, 4096, .inr (.inr (.inl m2))))]) := hD
      refine lv_iconst (v := nI 0) hx hb dX4_moveDown_26 (by decide) ?_
      refine lv_istore_n (lv' := [(2, .int (nI 0)), (1, .int (nI i)), (0, .ref (u 0))]) hx hb dX4_moveDown_27 rfl hl (by decide) rfl (fun ls hl => ?_)
      have loop2 : ∀ (rr j : Nat), rr + j = n → ∀ (H : Heap) (locs : List Loc) (ls : Array Slot), va_P D vwCl ([((u 0), .inr (4, [.int th, .int (nI n), .ref (u 1), .int (nI (sT x)), .int (nI ev), .int (sd x), .int (nI R.length), .ref (u 2), .ref (u 3), .ref (u 4), .int (nI ((sL x).length)), .ref (u 5), .ref (u 6), .ref (u 7), .ref (u 8), .int (nI ((sS x).length)), .ref (u 9), .ref (u 10)])), ((u 1), .inl (cF, 256, .inr (.inr (.inl (sc x))))), ((u 2), .inl (cI, 64, .inl r1)), ((u 3), .inl (cI, 64, .inl r2)), ((u 4), .inl (cF, 64, .inr (.inr (.inl r3)))), ((u 5), .inl (cI, 512, .inl f1)), ((u 6), .inl (cI, 512, .inl f2)), ((u 7), .inl (cI, 512, .inl f3)), ((u 8), .inl (cF, 512, .inr (.inr (.inl f4)))), ((u 9), .inl (cI, 16, .inl (upd m1 i (m1 (i + 1))))), ((u 10), .inl (cF, 4096, .inr (.inr (.inl (va_cpy m2 m2 (256 * i + 256) (256 * i) j)))))]) H → va_D A ([((u 0), .inr (4, [.int th, .int (nI n), .ref (u 1), .int (nI (sT x)), .int (nI ev), .int (sd x), .int (nI R.length), .ref (u 2), .ref (u 3), .ref (u 4), .int (nI ((sL x).length)), .ref (u 5), .ref (u 6), .ref (u 7), .ref (u 8), .int (nI ((sS x).length)), .ref (u 9), .ref (u 10)])), ((u 1), .inl (cF, 256, .inr (.inr (.inl (sc x))))), ((u 2), .inl (cI, 64, .inl r1)), ((u 3), .inl (cI, 64, .inl r2)), ((u 4), .inl (cF, 64, .inr (.inr (.inl r3)))), ((u 5), .inl (cI, 512, .inl f1)), ((u 6), .inl (cI, 512, .inl f2)), ((u 7), .inl (cI, 512, .inl f3)), ((u 8), .inl (cF, 512, .inr (.inr (.inl f4)))), ((u 9), .inl (cI, 16, .inl (upd m1 i (m1 (i + 1))))), ((u 10), .inl (cF, 4096, .inr (.inr (.inl (va_cpy m2 m2 (256 * i + 256) (256 * i) j)))))]) → va_S A s.heap H locs → lv_has ls 3 [(2, .int (nI j)), (1, .int (nI i)), (0, .ref (u 0))] → W p l e (rmk 0 0 0) s m [.ref (u 0)].toArray below meth c H locs 0 0 (MQ below (va_Qv (fun (w1 : va_W) => WM cI cF u n ev th R (sc x, sT x, sd x, sL x, (sS x).tail) w1) (fun w1 t => va_P D vwCl w1 t.heap) A) [.ref (u 0)].toArray s 0 0 A) (F0 m 28 ls []) := by
        intro rr
        induction rr with
        | zero =>
          intro j h2 H locs ls hP hD hS hl
          have hl : lv_has ls 3 [(2, .int (nI j)), (1, .int (nI i)), (0, .ref (u 0))] := hl
          have hP : va_P D vwCl ([((u 0), .inr (4, [.int th, .int (nI n), .ref (u 1), .int (nI (sT x)), .int (nI ev), .int (sd x), .int (nI R.length), .ref (u 2), .ref (u 3), .ref (u 4), .int (nI ((sL x).length)), .ref (u 5), .ref (u 6), .ref (u 7), .ref (u 8), .int (nI ((sS x).length)), .ref (u 9), .ref (u 10)])), ((u 1), .inl (cF, 256, .inr (.inr (.inl (sc x))))), ((u 2), .inl (cI, 64, .inl r1)), ((u 3), .inl (cI, 64, .inl r2)), ((u 4), .inl (cF, 64, .inr (.inr (.inl r3)))), ((u 5), .inl (cI, 512, .inl f1)), ((u 6), .inl (cI, 512, .inl f2)), ((u 7), .inl (cI, 512, .inl f3)), ((u 8), .inl (cF, 512, .inr (.inr (.inl f4)))), ((u 9), .inl (cI, 16, .inl (upd m1 i (m1 (i + 1))))), ((u 10), .inl (cF, 4096, .inr (.inr (.inl (va_cpy m2 m2 (256 * i + 256) (256 * i) j)))))]) H := hP
          have hD : va_D A ([((u 0), .inr (4, [.int th, .int (nI n), .ref (u 1), .int (nI (sT x)), .int (nI ev), .int (sd x), .int (nI R.length), .ref (u 2), .ref (u 3), .ref (u 4), .int (nI ((sL x).length)), .ref (u 5), .ref (u 6), .ref (u 7), .ref (u 8), .int (nI ((sS x).length)), .ref (u 9), .ref (u 10)])), ((u 1), .inl (cF, 256, .inr (.inr (.inl (sc x))))), ((u 2), .inl (cI, 64, .inl r1)), ((u 3), .inl (cI, 64, .inl r2)), ((u 4), .inl (cF, 64, .inr (.inr (.inl r3)))), ((u 5), .inl (cI, 512, .inl f1)), ((u 6), .inl (cI, 512, .inl f2)), ((u 7), .inl (cI, 512, .inl f3)), ((u 8), .inl (cF, 512, .inr (.inr (.inl f4)))), ((u 9), .inl (cI, 16, .inl (upd m1 i (m1 (i + 1))))), ((u 10), .inl (cF, 4096, .inr (.inr (.inl (va_cpy m2 m2 (256 * i + 256) (256 * i) j)))))]) := hD
          refine lv_iload_n hx hb dX4_moveDown_28 rfl (lv_at hl 0 rfl) ?_
          refine lv_aload_n hx hb dX4_moveDown_29 rfl (lv_at hl 2 rfl) ?_
          refine va_get (D := D) (ci := 4) (v := .int (nI n)) (C := RX4) (T := TX4) (N := 18) hx hb hts hiX4 hown hK hP 0 rfl rfl 1 (by decide) (hts (.fieldLink RX4 41 "StateKeeperModel" "n" "I") (List.mem_of_getElem? (i := 3) rfl)) (fun _ h9 => h9) rfl dX4_moveDown_30 ?_
          refine lv_icmp_ge (tgt := 70) hx hb dX4_moveDown_33 (by decide) (fun c_2 => ?_) (fun c_2 => absurd (nI_le (by omega) (by omega)) c_2)
          have hj2 : j = n := by omega
          subst j
          have hl : lv_has ls 3 [(2, .int (nI n)), (1, .int (nI i)), (0, .ref (u 0))] := hl
          refine lv_iinc (v := nI (i + 1)) (lv' := [(1, .int (nI (i + 1))), (2, .int (nI n)), (0, .ref (u 0))]) hx hb dX4_moveDown_70 hl (k := 1) rfl (nI_add _ 1) (by decide) rfl (fun ls hl => ?_)
          refine lv_goto (tgt := 2) hx hb dX4_moveDown_73 (by decide) ?_
          exact ih (i + 1) (by omega) _ _ (ksMv_s hn hM he) H locs ls hP hD hS (lv_sub hl [0, 2] rfl)
        | succ rr ih2 =>
          intro j h2 H locs ls hP hD hS hl
          have hl : lv_has ls 3 [(2, .int (nI j)), (1, .int (nI i)), (0, .ref (u 0))] := hl
          have hP : va_P D vwCl ([((u 0), .inr (4, [.int th, .int (nI n), .ref (u 1), .int (nI (sT x)), .int (nI ev), .int (sd x), .int (nI R.length), .ref (u 2), .ref (u 3), .ref (u 4), .int (nI ((sL x).length)), .ref (u 5), .ref (u 6), .ref (u 7), .ref (u 8), .int (nI ((sS x).length)), .ref (u 9), .ref (u 10)])), ((u 1), .inl (cF, 256, .inr (.inr (.inl (sc x))))), ((u 2), .inl (cI, 64, .inl r1)), ((u 3), .inl (cI, 64, .inl r2)), ((u 4), .inl (cF, 64, .inr (.inr (.inl r3)))), ((u 5), .inl (cI, 512, .inl f1)), ((u 6), .inl (cI, 512, .inl f2)), ((u 7), .inl (cI, 512, .inl f3)), ((u 8), .inl (cF, 512, .inr (.inr (.inl f4)))), ((u 9), .inl (cI, 16, .inl (upd m1 i (m1 (i + 1))))), ((u 10), .inl (cF, 4096, .inr (.inr (.inl (va_cpy m2 m2 (256 * i + 256) (256 * i) j)))))]) H := hP
          have hD : va_D A ([((u 0), .inr (4, [.int th, .int (nI n), .ref (u 1), .int (nI (sT x)), .int (nI ev), .int (sd x), .int (nI R.length), .ref (u 2), .ref (u 3), .ref (u 4), .int (nI ((sL x).length)), .ref (u 5), .ref (u 6), .ref (u 7), .ref (u 8), .int (nI ((sS x).length)), .ref (u 9), .ref (u 10)])), ((u 1), .inl (cF, 256, .inr (.inr (.inl (sc x))))), ((u 2), .inl (cI, 64, .inl r1)), ((u 3), .inl (cI, 64, .inl r2)), ((u 4), .inl (cF, 64, .inr (.inr (.inl r3)))), ((u 5), .inl (cI, 512, .inl f1)), ((u 6), .inl (cI, 512, .inl f2)), ((u 7), .inl (cI, 512, .inl f3)), ((u 8), .inl (cF, 512, .inr (.inr (.inl f4)))), ((u 9), .inl (cI, 16, .inl (upd m1 i (m1 (i + 1))))), ((u 10), .inl (cF, 4096, .inr (.inr (.inl (va_cpy m2 m2 (256 * i + 256) (256 * i) j)))))]) := hD
          refine lv_iload_n hx hb dX4_moveDown_28 rfl (lv_at hl 0 rfl) ?_
          refine lv_aload_n hx hb dX4_moveDown_29 rfl (lv_at hl 2 rfl) ?_
          refine va_get (D := D) (ci := 4) (v := .int (nI n)) (C := RX4) (T := TX4) (N := 18) hx hb hts hiX4 hown hK hP 0 rfl rfl 1 (by decide) (hts (.fieldLink RX4 41 "StateKeeperModel" "n" "I") (List.mem_of_getElem? (i := 3) rfl)) (fun _ h9 => h9) rfl dX4_moveDown_30 ?_
          refine lv_icmp_ge (tgt := 70) hx hb dX4_moveDown_33 (by decide) (fun c1 => absurd c1 (nI_ge (by omega) (by omega))) (fun c1 => ?_)
          refine lv_aload_n hx hb dX4_moveDown_36 rfl (lv_at hl 2 rfl) ?_
          refine va_get (D := D) (ci := 4) (v := .ref (u 10)) (C := RX4) (T := TX4) (N := 18) hx hb hts hiX4 hown hK hP 0 rfl rfl 17 (by decide) (hts (.fieldLink RX4 38 "StateKeeperModel" "keptCells" "[F") (List.mem_of_getElem? (i := 4) rfl)) (fun _ h9 => h9) rfl dX4_moveDown_37 ?_
          refine lv_sipush (v := nI 256) hx hb dX4_moveDown_40 (by decide) ?_
          refine lv_iload_n hx hb dX4_moveDown_43 rfl (lv_at hl 1 rfl) ?_
          refine lv_imul hx hb dX4_moveDown_44 ?_
          refine lz_i (pk_mul _ _) ?_
          refine lv_iload_n hx hb dX4_moveDown_45 rfl (lv_at hl 0 rfl) ?_
          refine lv_iadd hx hb dX4_moveDown_46 ?_
          refine lz_i (nI_add _ _) ?_
          refine lv_aload_n hx hb dX4_moveDown_47 rfl (lv_at hl 2 rfl) ?_
          refine va_get (D := D) (ci := 4) (v := .ref (u 10)) (C := RX4) (T := TX4) (N := 18) hx hb hts hiX4 hown hK hP 0 rfl rfl 17 (by decide) (hts (.fieldLink RX4 38 "StateKeeperModel" "keptCells" "[F") (List.mem_of_getElem? (i := 4) rfl)) (fun _ h9 => h9) rfl dX4_moveDown_48 ?_
          refine lv_sipush (v := nI 256) hx hb dX4_moveDown_51 (by decide) ?_
          refine lv_iload_n hx hb dX4_moveDown_54 rfl (lv_at hl 1 rfl) ?_
          refine lv_imul hx hb dX4_moveDown_55 ?_
          refine lz_i (pk_mul _ _) ?_
          refine lv_sipush (v := nI 256) hx hb dX4_moveDown_56 (by decide) ?_
          refine lv_iadd hx hb dX4_moveDown_59 ?_
          refine lz_i (nI_add _ _) ?_
          refine lv_iload_n hx hb dX4_moveDown_60 rfl (lv_at hl 0 rfl) ?_
          refine lv_iadd hx hb dX4_moveDown_61 ?_
          refine lz_i (nI_add _ _) ?_
          refine lz_fald hx hb hK hP 10 0 rfl rfl (by omega) (by omega) dX4_moveDown_62 ?_
          refine lz_f (y := m2 (256 * i + 256 + j)) (cpy_at _ _ (Or.inr (by omega))) ?_
          refine lz_fast hx hb hK hP hD hS 10 0 rfl rfl (by omega) (by omega) dX4_moveDown_63 (fun H locs hP hD hS => ?_)
          have hP : va_P D vwCl ([((u 0), .inr (4, [.int th, .int (nI n), .ref (u 1), .int (nI (sT x)), .int (nI ev), .int (sd x), .int (nI R.length), .ref (u 2), .ref (u 3), .ref (u 4), .int (nI ((sL x).length)), .ref (u 5), .ref (u 6), .ref (u 7), .ref (u 8), .int (nI ((sS x).length)), .ref (u 9), .ref (u 10)])), ((u 1), .inl (cF, 256, .inr (.inr (.inl (sc x))))), ((u 2), .inl (cI, 64, .inl r1)), ((u 3), .inl (cI, 64, .inl r2)), ((u 4), .inl (cF, 64, .inr (.inr (.inl r3)))), ((u 5), .inl (cI, 512, .inl f1)), ((u 6), .inl (cI, 512, .inl f2)), ((u 7), .inl (cI, 512, .inl f3)), ((u 8), .inl (cF, 512, .inr (.inr (.inl f4)))), ((u 9), .inl (cI, 16, .inl (upd m1 i (m1 (i + 1))))), ((u 10), .inl (cF, 4096, .inr (.inr (.inl (vf_upd (va_cpy m2 m2 (256 * i + 256) (256 * i) j) ((256 * i) + j) (m2 (256 * i + 256 + j)))))))]) H := hP
          have hD : va_D A ([((u 0), .inr (4, [.int th, .int (nI n), .ref (u 1), .int (nI (sT x)), .int (nI ev), .int (sd x), .int (nI R.length), .ref (u 2), .ref (u 3), .ref (u 4), .int (nI ((sL x).length)), .ref (u 5), .ref (u 6), .ref (u 7), .ref (u 8), .int (nI ((sS x).length)), .ref (u 9), .ref (u 10)])), ((u 1), .inl (cF, 256, .inr (.inr (.inl (sc x))))), ((u 2), .inl (cI, 64, .inl r1)), ((u 3), .inl (cI, 64, .inl r2)), ((u 4), .inl (cF, 64, .inr (.inr (.inl r3)))), ((u 5), .inl (cI, 512, .inl f1)), ((u 6), .inl (cI, 512, .inl f2)), ((u 7), .inl (cI, 512, .inl f3)), ((u 8), .inl (cF, 512, .inr (.inr (.inl f4)))), ((u 9), .inl (cI, 16, .inl (upd m1 i (m1 (i + 1))))), ((u 10), .inl (cF, 4096, .inr (.inr (.inl (vf_upd (va_cpy m2 m2 (256 * i + 256) (256 * i) j) ((256 * i) + j) (m2 (256 * i + 256 + j)))))))]) := hD
          have e8 : vf_upd (va_cpy m2 m2 (256 * i + 256) (256 * i) j) (256 * i + j) (m2 (256 * i + 256 + j)) = va_cpy m2 m2 (256 * i + 256) (256 * i) (j + 1) := cpy_s m2 m2 (256 * i + 256) (256 * i) j
          refine lv_iinc (v := nI (j + 1)) (lv' := [(2, .int (nI (j + 1))), (1, .int (nI i)), (0, .ref (u 0))]) hx hb dX4_moveDown_64 hl (k := 0) rfl (nI_add _ 1) (by decide) rfl (fun ls hl => ?_)
          refine lv_goto (tgt := 28) hx hb dX4_moveDown_67 (by decide) ?_
          rw [e8] at hP hD
          exact ih2 (j + 1) (by omega) H locs ls hP hD hS (lv_sub hl [0, 1, 2] rfl)
      exact loop2 n 0 (by omega) H locs ls (by rw [cpy_0]; exact hP) (by rw [cpy_0]; exact hD) hS (lv_sub hl [0, 1, 2] rfl)
  exact loop ((sS x).length - 1) 0 (by omega) k1 kc ⟨fun j e9 hj => by omega, fun j e9 _ hj => hks j e9 hj⟩ s.heap [] ls hP hD hS hl

set_option maxRecDepth 100000 in
set_option maxHeartbeats 4000000 in
/-- goBack(at) -/
theorem c_X4_goBack {j : Nat} {ee : sE} (hj : (sS x)[j]? = some ee) (hS16 : (sS x).length ≤ 16) (hn : n ≤ 256) (hw : WM cI cF u n ev th R x w) : Met l yX4_goBack wsX4_goBack (rmk 0 0 0) (pcW l D cI cF cQ aT [.ref (u 0), .int (nI j)] w sz) (va_Qi (fun (r : Int32) (w1 : va_W) => r = nI ((sS x).length - 1 - j) ∧ WM cI cF u n ev th R (gb n x j ee) w1) (fun w1 t => va_P D vwCl w1 t.heap) (va_A w sz)) 0 0 (va_A w sz) := by
  obtain ⟨r1, r2, r3, f1, f2, f3, f4, k1, kc, hdr, hrec, hks, rfl⟩ := id hw
  refine lz_ofM (Qf := fun A => va_Qi (fun (r : Int32) (w1 : va_W) => r = nI ((sS x).length - 1 - j) ∧ WM cI cF u n ev th R (gb n x j ee) w1) (fun w1 t => va_P D vwCl w1 t.heap) A) (cc := cX4_goBack) (maxL := 4) (ret := (some .int)) (by decide) rfl (Nat.le_of_ble_eq_true rfl) ?_
  intro p e s m below meth c A hAe hsz hx hb hr hlk hin hC hP hD hS ls hl
  clear hAe
  have hts := hC.1.2.2.2.2
  have hown : s.vm.findClass RX4 = some m.cls := hC.1.2.2.2.1
  have hml := hC.1.2.2.1
  have hA := hC.2.1
  have hK := hC.2.2.2.1
  have hnm := hC.2.2.2.2.1
  have hnf := hC.2.2.2.2.2.1
  have hiX4 : ∀ w ∈ u_ws RX4 TX4 18, w ∈ wsX4_goBack := fun _ h => List.mem_cons_of_mem _ (List.mem_append_right _ h)
  have hl : lv_has ls 4 [(0, .ref (u 0)), (1, .int (nI j))] := hl
  have hjl : j < (sS x).length := (List.getElem?_eq_some_iff.mp hj).1
  refine lv_aload_n hx hb dX4_goBack_0 rfl (lv_at hl 0 rfl) ?_
  refine va_get (D := D) (ci := 4) (v := .int (nI ((sS x).length))) (C := RX4) (T := TX4) (N := 18) hx hb hts hiX4 hown hK hP 0 rfl rfl 15 (by decide) (hts (.fieldLink RX4 101 "StateKeeperModel" "snapshots" "I") (List.mem_of_getElem? (i := 1) rfl)) (fun _ h9 => h9) rfl dX4_goBack_1 ?_
  refine lv_iload_n hx hb dX4_goBack_4 rfl (lv_at hl 1 rfl) ?_
  refine lv_isub hx hb dX4_goBack_5 ?_
  refine lz_i (pk_sub (by omega)) ?_
  refine lv_iconst (v := nI 1) hx hb dX4_goBack_6 (by decide) ?_
  refine lv_isub hx hb dX4_goBack_7 ?_
  refine lz_i (pk_sub (by omega)) ?_
  refine lz_i (y := nI ((sS x).length - 1 - j)) (by congr 1; omega) ?_
  refine lv_istore_n (lv' := [(2, .int (nI ((sS x).length - 1 - j))), (0, .ref (u 0)), (1, .int (nI j))]) hx hb dX4_goBack_8 rfl hl (by decide) rfl (fun ls hl => ?_)
  refine lv_aload_n hx hb dX4_goBack_9 rfl (lv_at hl 1 rfl) ?_
  refine lv_iload_n hx hb dX4_goBack_10 rfl (lv_at hl 2 rfl) ?_
  refine lv_iconst (v := nI 1) hx hb dX4_goBack_11 (by decide) ?_
  refine lv_iadd hx hb dX4_goBack_12 ?_
  refine lz_i (nI_add _ _) ?_
  refine va_put (D := D) (ci := 4) (v := .int (nI (j + 1))) (ty := .int) (C := RX4) (T := TX4) (N := 18) hx hb hts hiX4 tyX4 tyX4_ok nmX4 hown hK hP hD hS 0 rfl rfl 15 (by decide) (hts (.fieldLink RX4 101 "StateKeeperModel" "snapshots" "I") (List.mem_of_getElem? (i := 1) rfl)) (fun _ h9 => h9) rfl (by decide +kernel) rfl rfl (Nat.le_of_ble_eq_true rfl) dX4_goBack_13 (fun H locs hP hD hS => ?_)
  have hP : va_P D vwCl ([((u 0), .inr (4, [.int th, .int (nI n), .ref (u 1), .int (nI (sT x)), .int (nI ev), .int (sd x), .int (nI R.length), .ref (u 2), .ref (u 3), .ref (u 4), .int (nI ((sL x).length)), .ref (u 5), .ref (u 6), .ref (u 7), .ref (u 8), .int (nI (j + 1)), .ref (u 9), .ref (u 10)])), ((u 1), .inl (cF, 256, .inr (.inr (.inl (sc x))))), ((u 2), .inl (cI, 64, .inl r1)), ((u 3), .inl (cI, 64, .inl r2)), ((u 4), .inl (cF, 64, .inr (.inr (.inl r3)))), ((u 5), .inl (cI, 512, .inl f1)), ((u 6), .inl (cI, 512, .inl f2)), ((u 7), .inl (cI, 512, .inl f3)), ((u 8), .inl (cF, 512, .inr (.inr (.inl f4)))), ((u 9), .inl (cI, 16, .inl k1)), ((u 10), .inl (cF, 4096, .inr (.inr (.inl kc))))]) H := hP
  have hD : va_D A ([((u 0), .inr (4, [.int th, .int (nI n), .ref (u 1), .int (nI (sT x)), .int (nI ev), .int (sd x), .int (nI R.length), .ref (u 2), .ref (u 3), .ref (u 4), .int (nI ((sL x).length)), .ref (u 5), .ref (u 6), .ref (u 7), .ref (u 8), .int (nI (j + 1)), .ref (u 9), .ref (u 10)])), ((u 1), .inl (cF, 256, .inr (.inr (.inl (sc x))))), ((u 2), .inl (cI, 64, .inl r1)), ((u 3), .inl (cI, 64, .inl r2)), ((u 4), .inl (cF, 64, .inr (.inr (.inl r3)))), ((u 5), .inl (cI, 512, .inl f1)), ((u 6), .inl (cI, 512, .inl f2)), ((u 7), .inl (cI, 512, .inl f3)), ((u 8), .inl (cF, 512, .inr (.inr (.inl f4)))), ((u 9), .inl (cI, 16, .inl k1)), ((u 10), .inl (cF, 4096, .inr (.inr (.inl kc))))]) := hD
  refine lv_aload_n hx hb dX4_goBack_16 rfl (lv_at hl 1 rfl) ?_
  refine lv_aload_n hx hb dX4_goBack_17 rfl (lv_at hl 1 rfl) ?_
  refine va_get (D := D) (ci := 4) (v := .ref (u 9)) (C := RX4) (T := TX4) (N := 18) hx hb hts hiX4 hown hK hP 0 rfl rfl 16 (by decide) (hts (.fieldLink RX4 35 "StateKeeperModel" "keptSteps" "[I") (List.mem_of_getElem? (i := 2) rfl)) (fun _ h9 => h9) rfl dX4_goBack_18 ?_
  refine lv_iload_n hx hb dX4_goBack_21 rfl (lv_at hl 2 rfl) ?_
  refine lz_iald hx hb hK hP 9 1 rfl rfl (by omega) (by omega) dX4_goBack_22 ?_
  refine lz_i (y := nI ee.1) (hks j ee hj).1 ?_
  refine va_put (D := D) (ci := 4) (v := .int (nI ee.1)) (ty := .int) (C := RX4) (T := TX4) (N := 18) hx hb hts hiX4 tyX4 tyX4_ok nmX4 hown hK hP hD hS 0 rfl rfl 3 (by decide) (hts (.fieldLink RX4 62 "StateKeeperModel" "now" "I") (List.mem_of_getElem? (i := 3) rfl)) (fun _ h9 => h9) rfl (by decide +kernel) rfl rfl (Nat.le_of_ble_eq_true rfl) dX4_goBack_23 (fun H locs hP hD hS => ?_)
  have hP : va_P D vwCl ([((u 0), .inr (4, [.int th, .int (nI n), .ref (u 1), .int (nI ee.1), .int (nI ev), .int (sd x), .int (nI R.length), .ref (u 2), .ref (u 3), .ref (u 4), .int (nI ((sL x).length)), .ref (u 5), .ref (u 6), .ref (u 7), .ref (u 8), .int (nI (j + 1)), .ref (u 9), .ref (u 10)])), ((u 1), .inl (cF, 256, .inr (.inr (.inl (sc x))))), ((u 2), .inl (cI, 64, .inl r1)), ((u 3), .inl (cI, 64, .inl r2)), ((u 4), .inl (cF, 64, .inr (.inr (.inl r3)))), ((u 5), .inl (cI, 512, .inl f1)), ((u 6), .inl (cI, 512, .inl f2)), ((u 7), .inl (cI, 512, .inl f3)), ((u 8), .inl (cF, 512, .inr (.inr (.inl f4)))), ((u 9), .inl (cI, 16, .inl k1)), ((u 10), .inl (cF, 4096, .inr (.inr (.inl kc))))]) H := hP
  have hD : va_D A ([((u 0), .inr (4, [.int th, .int (nI n), .ref (u 1), .int (nI ee.1), .int (nI ev), .int (sd x), .int (nI R.length), .ref (u 2), .ref (u 3), .ref (u 4), .int (nI ((sL x).length)), .ref (u 5), .ref (u 6), .ref (u 7), .ref (u 8), .int (nI (j + 1)), .ref (u 9), .ref (u 10)])), ((u 1), .inl (cF, 256, .inr (.inr (.inl (sc x))))), ((u 2), .inl (cI, 64, .inl r1)), ((u 3), .inl (cI, 64, .inl r2)), ((u 4), .inl (cF, 64, .inr (.inr (.inl r3)))), ((u 5), .inl (cI, 512, .inl f1)), ((u 6), .inl (cI, 512, .inl f2)), ((u 7), .inl (cI, 512, .inl f3)), ((u 8), .inl (cF, 512, .inr (.inr (.inl f4)))), ((u 9), .inl (cI, 16, .inl k1)), ((u 10), .inl (cF, 4096, .inr (.inr (.inl kc))))]) := hD
  refine lv_iconst (v := nI 0) hx hb dX4_goBack_26 (by decide) ?_
  refine lv_istore_n (lv' := [(3, .int (nI 0)), (2, .int (nI ((sS x).length - 1 - j))), (0, .ref (u 0)), (1, .int (nI j))]) hx hb dX4_goBack_27 rfl hl (by decide) rfl (fun ls hl => ?_)
  have loop : ∀ (r i : Nat), r + i = n → ∀ (H : Heap) (locs : List Loc) (ls : Array Slot), va_P D vwCl ([((u 0), .inr (4, [.int th, .int (nI n), .ref (u 1), .int (nI ee.1), .int (nI ev), .int (sd x), .int (nI R.length), .ref (u 2), .ref (u 3), .ref (u 4), .int (nI ((sL x).length)), .ref (u 5), .ref (u 6), .ref (u 7), .ref (u 8), .int (nI (j + 1)), .ref (u 9), .ref (u 10)])), ((u 1), .inl (cF, 256, .inr (.inr (.inl (va_cpy kc (sc x) (256 * j) 0 i))))), ((u 2), .inl (cI, 64, .inl r1)), ((u 3), .inl (cI, 64, .inl r2)), ((u 4), .inl (cF, 64, .inr (.inr (.inl r3)))), ((u 5), .inl (cI, 512, .inl f1)), ((u 6), .inl (cI, 512, .inl f2)), ((u 7), .inl (cI, 512, .inl f3)), ((u 8), .inl (cF, 512, .inr (.inr (.inl f4)))), ((u 9), .inl (cI, 16, .inl k1)), ((u 10), .inl (cF, 4096, .inr (.inr (.inl kc))))]) H → va_D A ([((u 0), .inr (4, [.int th, .int (nI n), .ref (u 1), .int (nI ee.1), .int (nI ev), .int (sd x), .int (nI R.length), .ref (u 2), .ref (u 3), .ref (u 4), .int (nI ((sL x).length)), .ref (u 5), .ref (u 6), .ref (u 7), .ref (u 8), .int (nI (j + 1)), .ref (u 9), .ref (u 10)])), ((u 1), .inl (cF, 256, .inr (.inr (.inl (va_cpy kc (sc x) (256 * j) 0 i))))), ((u 2), .inl (cI, 64, .inl r1)), ((u 3), .inl (cI, 64, .inl r2)), ((u 4), .inl (cF, 64, .inr (.inr (.inl r3)))), ((u 5), .inl (cI, 512, .inl f1)), ((u 6), .inl (cI, 512, .inl f2)), ((u 7), .inl (cI, 512, .inl f3)), ((u 8), .inl (cF, 512, .inr (.inr (.inl f4)))), ((u 9), .inl (cI, 16, .inl k1)), ((u 10), .inl (cF, 4096, .inr (.inr (.inl kc))))]) → va_S A s.heap H locs → lv_has ls 4 [(3, .int (nI i)), (2, .int (nI ((sS x).length - 1 - j))), (0, .ref (u 0)), (1, .int (nI j))] → W p l e (rmk 0 0 0) s m [.ref (u 0), .int (nI j)].toArray below meth c H locs 0 0 (MQ below (va_Qi (fun (r : Int32) (w1 : va_W) => r = nI ((sS x).length - 1 - j) ∧ WM cI cF u n ev th R (gb n x j ee) w1) (fun w1 t => va_P D vwCl w1 t.heap) A) [.ref (u 0), .int (nI j)].toArray s 0 0 A) (F0 m 28 ls []) := by
    intro r
    induction r with
    | zero =>
      intro i h1  H locs ls hP hD hS hl
      have hl : lv_has ls 4 [(3, .int (nI i)), (2, .int (nI ((sS x).length - 1 - j))), (0, .ref (u 0)), (1, .int (nI j))] := hl
      have hP : va_P D vwCl ([((u 0), .inr (4, [.int th, .int (nI n), .ref (u 1), .int (nI ee.1), .int (nI ev), .int (sd x), .int (nI R.length), .ref (u 2), .ref (u 3), .ref (u 4), .int (nI ((sL x).length)), .ref (u 5), .ref (u 6), .ref (u 7), .ref (u 8), .int (nI (j + 1)), .ref (u 9), .ref (u 10)])), ((u 1), .inl (cF, 256, .inr (.inr (.inl (va_cpy kc (sc x) (256 * j) 0 i))))), ((u 2), .inl (cI, 64, .inl r1)), ((u 3), .inl (cI, 64, .inl r2)), ((u 4), .inl (cF, 64, .inr (.inr (.inl r3)))), ((u 5), .inl (cI, 512, .inl f1)), ((u 6), .inl (cI, 512, .inl f2)), ((u 7), .inl (cI, 512, .inl f3)), ((u 8), .inl (cF, 512, .inr (.inr (.inl f4)))), ((u 9), .inl (cI, 16, .inl k1)), ((u 10), .inl (cF, 4096, .inr (.inr (.inl kc))))]) H := hP
      have hD : va_D A ([((u 0), .inr (4, [.int th, .int (nI n), .ref (u 1), .int (nI ee.1), .int (nI ev), .int (sd x), .int (nI R.length), .ref (u 2), .ref (u 3), .ref (u 4), .int (nI ((sL x).length)), .ref (u 5), .ref (u 6), .ref (u 7), .ref (u 8), .int (nI (j + 1)), .ref (u 9), .ref (u 10)])), ((u 1), .inl (cF, 256, .inr (.inr (.inl (va_cpy kc (sc x) (256 * j) 0 i))))), ((u 2), .inl (cI, 64, .inl r1)), ((u 3), .inl (cI, 64, .inl r2)), ((u 4), .inl (cF, 64, .inr (.inr (.inl r3)))), ((u 5), .inl (cI, 512, .inl f1)), ((u 6), .inl (cI, 512, .inl f2)), ((u 7), .inl (cI, 512, .inl f3)), ((u 8), .inl (cF, 512, .inr (.inr (.inl f4)))), ((u 9), .inl (cI, 16, .inl k1)), ((u 10), .inl (cF, 4096, .inr (.inr (.inl kc))))]) := hD
      refine lv_iload_n hx hb dX4_goBack_28 rfl (lv_at hl 0 rfl) ?_
      refine lv_aload_n hx hb dX4_goBack_29 rfl (lv_at hl 2 rfl) ?_
      refine va_get (D := D) (ci := 4) (v := .int (nI n)) (C := RX4) (T := TX4) (N := 18) hx hb hts hiX4 hown hK hP 0 rfl rfl 1 (by decide) (hts (.fieldLink RX4 41 "StateKeeperModel" "n" "I") (List.mem_of_getElem? (i := 4) rfl)) (fun _ h9 => h9) rfl dX4_goBack_30 ?_
      refine lv_icmp_ge (tgt := 60) hx hb dX4_goBack_33 (by decide) (fun c_1 => ?_) (fun c_1 => absurd (nI_le (by omega) (by omega)) c_1)
      refine lv_iload_n hx hb dX4_goBack_60 rfl (lv_at hl 1 rfl) ?_
      have hi2 : i = n := by omega
      subst i
      have hlen : ((sS x).take (j + 1)).length = j + 1 := by rw [List.length_take]; omega
      have hcc : va_cpy kc (sc x) (256 * j) 0 n = va_cpy ee.2 (sc x) 0 0 n := by
        funext q
        unfold va_cpy
        split
        · next h9 => rw [(hks j ee hj).2 (q - 0) (by omega), Nat.zero_add]
        · rfl
      exact W.iret hx hb hr (fun t9 ht9 _ => ⟨⟨_, [((u 0), .inr (4, [.int th, .int (nI n), .ref (u 1), .int (nI ee.1), .int (nI ev), .int (sd x), .int (nI R.length), .ref (u 2), .ref (u 3), .ref (u 4), .int (nI ((sL x).length)), .ref (u 5), .ref (u 6), .ref (u 7), .ref (u 8), .int (nI (j + 1)), .ref (u 9), .ref (u 10)])), ((u 1), .inl (cF, 256, .inr (.inr (.inl (va_cpy kc (sc x) (256 * j) 0 n))))), ((u 2), .inl (cI, 64, .inl r1)), ((u 3), .inl (cI, 64, .inl r2)), ((u 4), .inl (cF, 64, .inr (.inr (.inl r3)))), ((u 5), .inl (cI, 512, .inl f1)), ((u 6), .inl (cI, 512, .inl f2)), ((u 7), .inl (cI, 512, .inl f3)), ((u 8), .inl (cF, 512, .inr (.inr (.inl f4)))), ((u 9), .inl (cI, 16, .inl k1)), ((u 10), .inl (cF, 4096, .inr (.inr (.inl kc))))], rfl, ⟨rfl, _, _, _, _, _, _, _, _, _, hdr, hrec, fun j9 e9 hj9 => hks j9 e9 (by have hj8 : ((sS x).take (j + 1))[j9]? = some e9 := hj9; rw [List.getElem?_take] at hj8; split at hj8; exact hj8; cases hj8), by rw [hcc, show (sS (gb n x j ee)).length = j + 1 from hlen]; rfl⟩, by show va_P D vwCl _ t9.heap; rw [ht9]; exact hP⟩, hS.F ht9⟩) hS.2.2 dX4_goBack_61
    | succ r ih =>
      intro i h1  H locs ls hP hD hS hl
      have hl : lv_has ls 4 [(3, .int (nI i)), (2, .int (nI ((sS x).length - 1 - j))), (0, .ref (u 0)), (1, .int (nI j))] := hl
      have hP : va_P D vwCl ([((u 0), .inr (4, [.int th, .int (nI n), .ref (u 1), .int (nI ee.1), .int (nI ev), .int (sd x), .int (nI R.length), .ref (u 2), .ref (u 3), .ref (u 4), .int (nI ((sL x).length)), .ref (u 5), .ref (u 6), .ref (u 7), .ref (u 8), .int (nI (j + 1)), .ref (u 9), .ref (u 10)])), ((u 1), .inl (cF, 256, .inr (.inr (.inl (va_cpy kc (sc x) (256 * j) 0 i))))), ((u 2), .inl (cI, 64, .inl r1)), ((u 3), .inl (cI, 64, .inl r2)), ((u 4), .inl (cF, 64, .inr (.inr (.inl r3)))), ((u 5), .inl (cI, 512, .inl f1)), ((u 6), .inl (cI, 512, .inl f2)), ((u 7), .inl (cI, 512, .inl f3)), ((u 8), .inl (cF, 512, .inr (.inr (.inl f4)))), ((u 9), .inl (cI, 16, .inl k1)), ((u 10), .inl (cF, 4096, .inr (.inr (.inl kc))))]) H := hP
      have hD : va_D A ([((u 0), .inr (4, [.int th, .int (nI n), .ref (u 1), .int (nI ee.1), .int (nI ev), .int (sd x), .int (nI R.length), .ref (u 2), .ref (u 3), .ref (u 4), .int (nI ((sL x).length)), .ref (u 5), .ref (u 6), .ref (u 7), .ref (u 8), .int (nI (j + 1)), .ref (u 9), .ref (u 10)])), ((u 1), .inl (cF, 256, .inr (.inr (.inl (va_cpy kc (sc x) (256 * j) 0 i))))), ((u 2), .inl (cI, 64, .inl r1)), ((u 3), .inl (cI, 64, .inl r2)), ((u 4), .inl (cF, 64, .inr (.inr (.inl r3)))), ((u 5), .inl (cI, 512, .inl f1)), ((u 6), .inl (cI, 512, .inl f2)), ((u 7), .inl (cI, 512, .inl f3)), ((u 8), .inl (cF, 512, .inr (.inr (.inl f4)))), ((u 9), .inl (cI, 16, .inl k1)), ((u 10), .inl (cF, 4096, .inr (.inr (.inl kc))))]) := hD
      refine lv_iload_n hx hb dX4_goBack_28 rfl (lv_at hl 0 rfl) ?_
      refine lv_aload_n hx hb dX4_goBack_29 rfl (lv_at hl 2 rfl) ?_
      refine va_get (D := D) (ci := 4) (v := .int (nI n)) (C := RX4) (T := TX4) (N := 18) hx hb hts hiX4 hown hK hP 0 rfl rfl 1 (by decide) (hts (.fieldLink RX4 41 "StateKeeperModel" "n" "I") (List.mem_of_getElem? (i := 4) rfl)) (fun _ h9 => h9) rfl dX4_goBack_30 ?_
      refine lv_icmp_ge (tgt := 60) hx hb dX4_goBack_33 (by decide) (fun c1 => absurd c1 (nI_ge (by omega) (by omega))) (fun c1 => ?_)
      refine lv_aload_n hx hb dX4_goBack_36 rfl (lv_at hl 2 rfl) ?_
      refine va_get (D := D) (ci := 4) (v := .ref (u 1)) (C := RX4) (T := TX4) (N := 18) hx hb hts hiX4 hown hK hP 0 rfl rfl 2 (by decide) (hts (.fieldLink RX4 7 "StateKeeperModel" "cells" "[F") (List.mem_of_getElem? (i := 5) rfl)) (fun _ h9 => h9) rfl dX4_goBack_37 ?_
      refine lv_iload_n hx hb dX4_goBack_40 rfl (lv_at hl 0 rfl) ?_
      refine lv_aload_n hx hb dX4_goBack_41 rfl (lv_at hl 2 rfl) ?_
      refine va_get (D := D) (ci := 4) (v := .ref (u 10)) (C := RX4) (T := TX4) (N := 18) hx hb hts hiX4 hown hK hP 0 rfl rfl 17 (by decide) (hts (.fieldLink RX4 38 "StateKeeperModel" "keptCells" "[F") (List.mem_of_getElem? (i := 6) rfl)) (fun _ h9 => h9) rfl dX4_goBack_42 ?_
      refine lv_sipush (v := nI 256) hx hb dX4_goBack_45 (by decide) ?_
      refine lv_iload_n hx hb dX4_goBack_48 rfl (lv_at hl 3 rfl) ?_
      refine lv_imul hx hb dX4_goBack_49 ?_
      refine lz_i (pk_mul _ _) ?_
      refine lv_iload_n hx hb dX4_goBack_50 rfl (lv_at hl 0 rfl) ?_
      refine lv_iadd hx hb dX4_goBack_51 ?_
      refine lz_i (nI_add _ _) ?_
      refine lz_fald hx hb hK hP 10 0 rfl rfl (by omega) (by omega) dX4_goBack_52 ?_
      refine lz_fast hx hb hK hP hD hS 1 0 rfl rfl (by omega) (by omega) dX4_goBack_53 (fun H locs hP hD hS => ?_)
      have hP : va_P D vwCl ([((u 0), .inr (4, [.int th, .int (nI n), .ref (u 1), .int (nI ee.1), .int (nI ev), .int (sd x), .int (nI R.length), .ref (u 2), .ref (u 3), .ref (u 4), .int (nI ((sL x).length)), .ref (u 5), .ref (u 6), .ref (u 7), .ref (u 8), .int (nI (j + 1)), .ref (u 9), .ref (u 10)])), ((u 1), .inl (cF, 256, .inr (.inr (.inl (vf_upd (va_cpy kc (sc x) (256 * j) 0 i) i (kc ((256 * j) + i))))))), ((u 2), .inl (cI, 64, .inl r1)), ((u 3), .inl (cI, 64, .inl r2)), ((u 4), .inl (cF, 64, .inr (.inr (.inl r3)))), ((u 5), .inl (cI, 512, .inl f1)), ((u 6), .inl (cI, 512, .inl f2)), ((u 7), .inl (cI, 512, .inl f3)), ((u 8), .inl (cF, 512, .inr (.inr (.inl f4)))), ((u 9), .inl (cI, 16, .inl k1)), ((u 10), .inl (cF, 4096, .inr (.inr (.inl kc))))]) H := hP
      have hD : va_D A ([((u 0), .inr (4, [.int th, .int (nI n), .ref (u 1), .int (nI ee.1), .int (nI ev), .int (sd x), .int (nI R.length), .ref (u 2), .ref (u 3), .ref (u 4), .int (nI ((sL x).length)), .ref (u 5), .ref (u 6), .ref (u 7), .ref (u 8), .int (nI (j + 1)), .ref (u 9), .ref (u 10)])), ((u 1), .inl (cF, 256, .inr (.inr (.inl (vf_upd (va_cpy kc (sc x) (256 * j) 0 i) i (kc ((256 * j) + i))))))), ((u 2), .inl (cI, 64, .inl r1)), ((u 3), .inl (cI, 64, .inl r2)), ((u 4), .inl (cF, 64, .inr (.inr (.inl r3)))), ((u 5), .inl (cI, 512, .inl f1)), ((u 6), .inl (cI, 512, .inl f2)), ((u 7), .inl (cI, 512, .inl f3)), ((u 8), .inl (cF, 512, .inr (.inr (.inl f4)))), ((u 9), .inl (cI, 16, .inl k1)), ((u 10), .inl (cF, 4096, .inr (.inr (.inl kc))))]) := hD
      have e8 : vf_upd (va_cpy kc (sc x) (256 * j) 0 i) i (kc (256 * j + i)) = va_cpy kc (sc x) (256 * j) 0 (i + 1) := by have := cpy_s kc (sc x) (256 * j) 0 i; rw [Nat.zero_add] at this; exact this
      refine lv_iinc (v := nI (i + 1)) (lv' := [(3, .int (nI (i + 1))), (2, .int (nI ((sS x).length - 1 - j))), (0, .ref (u 0)), (1, .int (nI j))]) hx hb dX4_goBack_54 hl (k := 0) rfl (nI_add _ 1) (by decide) rfl (fun ls hl => ?_)
      refine lv_goto (tgt := 28) hx hb dX4_goBack_57 (by decide) ?_
      rw [e8] at hP hD
      exact ih (i + 1) (by omega) H locs ls hP hD hS (lv_sub hl [0, 1, 2, 3] rfl)
  exact loop n 0 (by omega) H locs ls (by rw [cpy_0]; exact hP) (by rw [cpy_0]; exact hD) hS hl

set_option maxRecDepth 100000 in
set_option maxHeartbeats 4000000 in
/-- keepNow() -/
theorem c_X4_keepNow (hS2 : sGood (sS x)) (hL : rIn n (sL x)) (hn : n ≤ 256) (hT9 : sT x < 2 ^ 29) (hw : WM cI cF u n ev th R x w) : Met l yX4_keepNow wsX4_keepNow (rmk 1 0 0) (pcW l D cI cF cQ aT [.ref (u 0)] w sz) (va_Qv (fun (w1 : va_W) => WM cI cF u n ev th R (kp x) w1) (fun w1 t => va_P D vwCl w1 t.heap) (va_A w sz)) 0 0 (va_A w sz) := by
  obtain ⟨r1, r2, r3, f1, f2, f3, f4, k1, kc, hdr, hrec, hks, rfl⟩ := id hw
  refine lz_ofM (Qf := fun A => va_Qv (fun (w1 : va_W) => WM cI cF u n ev th R (kp x) w1) (fun w1 t => va_P D vwCl w1 t.heap) A) (cc := cX4_keepNow) (maxL := 3) (ret := none) (by decide) rfl (Nat.le_of_ble_eq_true rfl) ?_
  intro p e s m below meth c A hAe hsz hx hb hr hlk hin hC hP hD hS ls hl
  clear hAe
  have hts := hC.1.2.2.2.2
  have hown : s.vm.findClass RX4 = some m.cls := hC.1.2.2.2.1
  have hml := hC.1.2.2.1
  have hA := hC.2.1
  have hK := hC.2.2.2.1
  have hnm := hC.2.2.2.2.1
  have hnf := hC.2.2.2.2.2.1
  have hiX4 : ∀ w ∈ u_ws RX4 TX4 18, w ∈ wsX4_keepNow := fun _ h => List.mem_cons_of_mem _ (List.mem_append_right _ h)
  have hl : lv_has ls 3 [(0, .ref (u 0))] := hl
  have hS8 := hS2.2.1
  have last2 : ∀ (a N9 : Nat) (L9 : List rI) (S9 S8 : List sE) (r1 r2 : Nat → Int32) (r3 : Nat → UInt32) (g1 g2 g3 : Nat → Int32) (g4 : Nat → UInt32) (m1 : Nat → Int32) (m2 : Nat → UInt32), a < 16 → drOk R r1 r2 r3 → recOk L9 g1 g2 g3 g4 → ksOk n S9 m1 m2 → (∀ (i : Nat) (e : sE), S8[i]? = some e → (i = a ∧ e = (sT x, sc x)) ∨ (i ≠ a ∧ S9[i]? = some e)) → S8.length = N9 → kp x = (sc x, sT x, sd x, L9, S8) → ∀ (H : Heap) (locs : List Loc) (ls : Array Slot), va_P D vwCl ([((u 0), .inr (4, [.int th, .int (nI n), .ref (u 1), .int (nI (sT x)), .int (nI ev), .int (sd x), .int (nI R.length), .ref (u 2), .ref (u 3), .ref (u 4), .int (nI L9.length), .ref (u 5), .ref (u 6), .ref (u 7), .ref (u 8), .int (nI N9), .ref (u 9), .ref (u 10)])), ((u 1), .inl (cF, 256, .inr (.inr (.inl (sc x))))), ((u 2), .inl (cI, 64, .inl r1)), ((u 3), .inl (cI, 64, .inl r2)), ((u 4), .inl (cF, 64, .inr (.inr (.inl r3)))), ((u 5), .inl (cI, 512, .inl g1)), ((u 6), .inl (cI, 512, .inl g2)), ((u 7), .inl (cI, 512, .inl g3)), ((u 8), .inl (cF, 512, .inr (.inr (.inl g4)))), ((u 9), .inl (cI, 16, .inl m1)), ((u 10), .inl (cF, 4096, .inr (.inr (.inl m2))))]) H → va_D A ([((u 0), .inr (4, [.int th, .int (nI n), .ref (u 1), .int (nI (sT x)), .int (nI ev), .int (sd x), .int (nI R.length), .ref (u 2), .ref (u 3), .ref (u 4), .int (nI L9.length), .ref (u 5), .ref (u 6), .ref (u 7), .ref (u 8), .int (nI N9), .ref (u 9), .ref (u 10)])), ((u 1), .inl (cF, 256, .inr (.inr (.inl (sc x))))), ((u 2), .inl (cI, 64, .inl r1)), ((u 3), .inl (cI, 64, .inl r2)), ((u 4), .inl (cF, 64, .inr (.inr (.inl r3)))), ((u 5), .inl (cI, 512, .inl g1)), ((u 6), .inl (cI, 512, .inl g2)), ((u 7), .inl (cI, 512, .inl g3)), ((u 8), .inl (cF, 512, .inr (.inr (.inl g4)))), ((u 9), .inl (cI, 16, .inl m1)), ((u 10), .inl (cF, 4096, .inr (.inr (.inl m2))))]) → va_S A s.heap H locs → lv_has ls 3 [(1, .int (nI a)), (0, .ref (u 0))] → W p l e (rmk 1 0 0) s m [.ref (u 0)].toArray below meth c H locs 0 0 (MQ below (va_Qv (fun (w1 : va_W) => WM cI cF u n ev th R (kp x) w1) (fun w1 t => va_P D vwCl w1 t.heap) A) [.ref (u 0)].toArray s 0 0 A) (F0 m 55 ls []) := by
    intro a N9 L9 S9 S8 r1 r2 r3 g1 g2 g3 g4 m1 m2 ha hdr hr9 hk9 hs8 hl8 hkp H locs ls hP hD hS hl
    have hl : lv_has ls 3 [(1, .int (nI a)), (0, .ref (u 0))] := hl
    have hP : va_P D vwCl ([((u 0), .inr (4, [.int th, .int (nI n), .ref (u 1), .int (nI (sT x)), .int (nI ev), .int (sd x), .int (nI R.length), .ref (u 2), .ref (u 3), .ref (u 4), .int (nI L9.length), .ref (u 5), .ref (u 6), .ref (u 7), .ref (u 8), .int (nI N9), .ref (u 9), .ref (u 10)])), ((u 1), .inl (cF, 256, .inr (.inr (.inl (sc x))))), ((u 2), .inl (cI, 64, .inl r1)), ((u 3), .inl (cI, 64, .inl r2)), ((u 4), .inl (cF, 64, .inr (.inr (.inl r3)))), ((u 5), .inl (cI, 512, .inl g1)), ((u 6), .inl (cI, 512, .inl g2)), ((u 7), .inl (cI, 512, .inl g3)), ((u 8), .inl (cF, 512, .inr (.inr (.inl g4)))), ((u 9), .inl (cI, 16, .inl m1)), ((u 10), .inl (cF, 4096, .inr (.inr (.inl m2))))]) H := hP
    have hD : va_D A ([((u 0), .inr (4, [.int th, .int (nI n), .ref (u 1), .int (nI (sT x)), .int (nI ev), .int (sd x), .int (nI R.length), .ref (u 2), .ref (u 3), .ref (u 4), .int (nI L9.length), .ref (u 5), .ref (u 6), .ref (u 7), .ref (u 8), .int (nI N9), .ref (u 9), .ref (u 10)])), ((u 1), .inl (cF, 256, .inr (.inr (.inl (sc x))))), ((u 2), .inl (cI, 64, .inl r1)), ((u 3), .inl (cI, 64, .inl r2)), ((u 4), .inl (cF, 64, .inr (.inr (.inl r3)))), ((u 5), .inl (cI, 512, .inl g1)), ((u 6), .inl (cI, 512, .inl g2)), ((u 7), .inl (cI, 512, .inl g3)), ((u 8), .inl (cF, 512, .inr (.inr (.inl g4)))), ((u 9), .inl (cI, 16, .inl m1)), ((u 10), .inl (cF, 4096, .inr (.inr (.inl m2))))]) := hD
    refine lv_aload_n hx hb dX4_keepNow_55 rfl (lv_at hl 1 rfl) ?_
    refine va_get (D := D) (ci := 4) (v := .ref (u 9)) (C := RX4) (T := TX4) (N := 18) hx hb hts hiX4 hown hK hP 0 rfl rfl 16 (by decide) (hts (.fieldLink RX4 35 "StateKeeperModel" "keptSteps" "[I") (List.mem_of_getElem? (i := 3) rfl)) (fun _ h9 => h9) rfl dX4_keepNow_56 ?_
    refine lv_iload_n hx hb dX4_keepNow_59 rfl (lv_at hl 0 rfl) ?_
    refine lv_aload_n hx hb dX4_keepNow_60 rfl (lv_at hl 1 rfl) ?_
    refine va_get (D := D) (ci := 4) (v := .int (nI (sT x))) (C := RX4) (T := TX4) (N := 18) hx hb hts hiX4 hown hK hP 0 rfl rfl 3 (by decide) (hts (.fieldLink RX4 62 "StateKeeperModel" "now" "I") (List.mem_of_getElem? (i := 1) rfl)) (fun _ h9 => h9) rfl dX4_keepNow_61 ?_
    refine lz_iast hx hb hK hP hD hS 9 1 rfl rfl (by omega) (by omega) dX4_keepNow_64 (fun H locs hP hD hS => ?_)
    have hP : va_P D vwCl ([((u 0), .inr (4, [.int th, .int (nI n), .ref (u 1), .int (nI (sT x)), .int (nI ev), .int (sd x), .int (nI R.length), .ref (u 2), .ref (u 3), .ref (u 4), .int (nI L9.length), .ref (u 5), .ref (u 6), .ref (u 7), .ref (u 8), .int (nI N9), .ref (u 9), .ref (u 10)])), ((u 1), .inl (cF, 256, .inr (.inr (.inl (sc x))))), ((u 2), .inl (cI, 64, .inl r1)), ((u 3), .inl (cI, 64, .inl r2)), ((u 4), .inl (cF, 64, .inr (.inr (.inl r3)))), ((u 5), .inl (cI, 512, .inl g1)), ((u 6), .inl (cI, 512, .inl g2)), ((u 7), .inl (cI, 512, .inl g3)), ((u 8), .inl (cF, 512, .inr (.inr (.inl g4)))), ((u 9), .inl (cI, 16, .inl (upd m1 a (nI (sT x))))), ((u 10), .inl (cF, 4096, .inr (.inr (.inl m2))))]) H := hP
    have hD : va_D A ([((u 0), .inr (4, [.int th, .int (nI n), .ref (u 1), .int (nI (sT x)), .int (nI ev), .int (sd x), .int (nI R.length), .ref (u 2), .ref (u 3), .ref (u 4), .int (nI L9.length), .ref (u 5), .ref (u 6), .ref (u 7), .ref (u 8), .int (nI N9), .ref (u 9), .ref (u 10)])), ((u 1), .inl (cF, 256, .inr (.inr (.inl (sc x))))), ((u 2), .inl (cI, 64, .inl r1)), ((u 3), .inl (cI, 64, .inl r2)), ((u 4), .inl (cF, 64, .inr (.inr (.inl r3)))), ((u 5), .inl (cI, 512, .inl g1)), ((u 6), .inl (cI, 512, .inl g2)), ((u 7), .inl (cI, 512, .inl g3)), ((u 8), .inl (cF, 512, .inr (.inr (.inl g4)))), ((u 9), .inl (cI, 16, .inl (upd m1 a (nI (sT x))))), ((u 10), .inl (cF, 4096, .inr (.inr (.inl m2))))]) := hD
    refine lv_iconst (v := nI 0) hx hb dX4_keepNow_65 (by decide) ?_
    refine lv_istore_n (lv' := [(2, .int (nI 0)), (1, .int (nI a)), (0, .ref (u 0))]) hx hb dX4_keepNow_66 rfl hl (by decide) rfl (fun ls hl => ?_)
    have loop : ∀ (r i : Nat), r + i = n → ∀ (H : Heap) (locs : List Loc) (ls : Array Slot), va_P D vwCl ([((u 0), .inr (4, [.int th, .int (nI n), .ref (u 1), .int (nI (sT x)), .int (nI ev), .int (sd x), .int (nI R.length), .ref (u 2), .ref (u 3), .ref (u 4), .int (nI L9.length), .ref (u 5), .ref (u 6), .ref (u 7), .ref (u 8), .int (nI N9), .ref (u 9), .ref (u 10)])), ((u 1), .inl (cF, 256, .inr (.inr (.inl (sc x))))), ((u 2), .inl (cI, 64, .inl r1)), ((u 3), .inl (cI, 64, .inl r2)), ((u 4), .inl (cF, 64, .inr (.inr (.inl r3)))), ((u 5), .inl (cI, 512, .inl g1)), ((u 6), .inl (cI, 512, .inl g2)), ((u 7), .inl (cI, 512, .inl g3)), ((u 8), .inl (cF, 512, .inr (.inr (.inl g4)))), ((u 9), .inl (cI, 16, .inl (upd m1 a (nI (sT x))))), ((u 10), .inl (cF, 4096, .inr (.inr (.inl (va_cpy (sc x) m2 0 (256 * a) i)))))]) H → va_D A ([((u 0), .inr (4, [.int th, .int (nI n), .ref (u 1), .int (nI (sT x)), .int (nI ev), .int (sd x), .int (nI R.length), .ref (u 2), .ref (u 3), .ref (u 4), .int (nI L9.length), .ref (u 5), .ref (u 6), .ref (u 7), .ref (u 8), .int (nI N9), .ref (u 9), .ref (u 10)])), ((u 1), .inl (cF, 256, .inr (.inr (.inl (sc x))))), ((u 2), .inl (cI, 64, .inl r1)), ((u 3), .inl (cI, 64, .inl r2)), ((u 4), .inl (cF, 64, .inr (.inr (.inl r3)))), ((u 5), .inl (cI, 512, .inl g1)), ((u 6), .inl (cI, 512, .inl g2)), ((u 7), .inl (cI, 512, .inl g3)), ((u 8), .inl (cF, 512, .inr (.inr (.inl g4)))), ((u 9), .inl (cI, 16, .inl (upd m1 a (nI (sT x))))), ((u 10), .inl (cF, 4096, .inr (.inr (.inl (va_cpy (sc x) m2 0 (256 * a) i)))))]) → va_S A s.heap H locs → lv_has ls 3 [(2, .int (nI i)), (1, .int (nI a)), (0, .ref (u 0))] → W p l e (rmk 1 0 0) s m [.ref (u 0)].toArray below meth c H locs 0 0 (MQ below (va_Qv (fun (w1 : va_W) => WM cI cF u n ev th R (kp x) w1) (fun w1 t => va_P D vwCl w1 t.heap) A) [.ref (u 0)].toArray s 0 0 A) (F0 m 67 ls []) := by
      intro r
      induction r with
      | zero =>
        intro i h1  H locs ls hP hD hS hl
        have hl : lv_has ls 3 [(2, .int (nI i)), (1, .int (nI a)), (0, .ref (u 0))] := hl
        have hP : va_P D vwCl ([((u 0), .inr (4, [.int th, .int (nI n), .ref (u 1), .int (nI (sT x)), .int (nI ev), .int (sd x), .int (nI R.length), .ref (u 2), .ref (u 3), .ref (u 4), .int (nI L9.length), .ref (u 5), .ref (u 6), .ref (u 7), .ref (u 8), .int (nI N9), .ref (u 9), .ref (u 10)])), ((u 1), .inl (cF, 256, .inr (.inr (.inl (sc x))))), ((u 2), .inl (cI, 64, .inl r1)), ((u 3), .inl (cI, 64, .inl r2)), ((u 4), .inl (cF, 64, .inr (.inr (.inl r3)))), ((u 5), .inl (cI, 512, .inl g1)), ((u 6), .inl (cI, 512, .inl g2)), ((u 7), .inl (cI, 512, .inl g3)), ((u 8), .inl (cF, 512, .inr (.inr (.inl g4)))), ((u 9), .inl (cI, 16, .inl (upd m1 a (nI (sT x))))), ((u 10), .inl (cF, 4096, .inr (.inr (.inl (va_cpy (sc x) m2 0 (256 * a) i)))))]) H := hP
        have hD : va_D A ([((u 0), .inr (4, [.int th, .int (nI n), .ref (u 1), .int (nI (sT x)), .int (nI ev), .int (sd x), .int (nI R.length), .ref (u 2), .ref (u 3), .ref (u 4), .int (nI L9.length), .ref (u 5), .ref (u 6), .ref (u 7), .ref (u 8), .int (nI N9), .ref (u 9), .ref (u 10)])), ((u 1), .inl (cF, 256, .inr (.inr (.inl (sc x))))), ((u 2), .inl (cI, 64, .inl r1)), ((u 3), .inl (cI, 64, .inl r2)), ((u 4), .inl (cF, 64, .inr (.inr (.inl r3)))), ((u 5), .inl (cI, 512, .inl g1)), ((u 6), .inl (cI, 512, .inl g2)), ((u 7), .inl (cI, 512, .inl g3)), ((u 8), .inl (cF, 512, .inr (.inr (.inl g4)))), ((u 9), .inl (cI, 16, .inl (upd m1 a (nI (sT x))))), ((u 10), .inl (cF, 4096, .inr (.inr (.inl (va_cpy (sc x) m2 0 (256 * a) i)))))]) := hD
        refine lv_iload_n hx hb dX4_keepNow_67 rfl (lv_at hl 0 rfl) ?_
        refine lv_aload_n hx hb dX4_keepNow_68 rfl (lv_at hl 2 rfl) ?_
        refine va_get (D := D) (ci := 4) (v := .int (nI n)) (C := RX4) (T := TX4) (N := 18) hx hb hts hiX4 hown hK hP 0 rfl rfl 1 (by decide) (hts (.fieldLink RX4 41 "StateKeeperModel" "n" "I") (List.mem_of_getElem? (i := 4) rfl)) (fun _ h9 => h9) rfl dX4_keepNow_69 ?_
        refine lv_icmp_ge (tgt := 99) hx hb dX4_keepNow_72 (by decide) (fun c_1 => ?_) (fun c_1 => absurd (nI_le (by omega) (by omega)) c_1)
        have hi2 : i = n := by omega
        subst i
        exact W.vret hx hb hr (fun t9 ht9 _ => ⟨⟨[((u 0), .inr (4, [.int th, .int (nI n), .ref (u 1), .int (nI (sT x)), .int (nI ev), .int (sd x), .int (nI R.length), .ref (u 2), .ref (u 3), .ref (u 4), .int (nI L9.length), .ref (u 5), .ref (u 6), .ref (u 7), .ref (u 8), .int (nI N9), .ref (u 9), .ref (u 10)])), ((u 1), .inl (cF, 256, .inr (.inr (.inl (sc x))))), ((u 2), .inl (cI, 64, .inl r1)), ((u 3), .inl (cI, 64, .inl r2)), ((u 4), .inl (cF, 64, .inr (.inr (.inl r3)))), ((u 5), .inl (cI, 512, .inl g1)), ((u 6), .inl (cI, 512, .inl g2)), ((u 7), .inl (cI, 512, .inl g3)), ((u 8), .inl (cF, 512, .inr (.inr (.inl g4)))), ((u 9), .inl (cI, 16, .inl (upd m1 a (nI (sT x))))), ((u 10), .inl (cF, 4096, .inr (.inr (.inl (va_cpy (sc x) m2 0 (256 * a) n)))))], rfl, ⟨_, _, _, _, _, _, _, _, _, hdr, by rw [hkp]; exact hr9, by rw [hkp]; exact ksOk_set hn hk9 hs8, by rw [hkp, ← hl8]⟩, by show va_P D vwCl _ t9.heap; rw [ht9]; exact hP⟩, hS.F ht9⟩) hS.2.2 dX4_keepNow_99
      | succ r ih =>
        intro i h1  H locs ls hP hD hS hl
        have hl : lv_has ls 3 [(2, .int (nI i)), (1, .int (nI a)), (0, .ref (u 0))] := hl
        have hP : va_P D vwCl ([((u 0), .inr (4, [.int th, .int (nI n), .ref (u 1), .int (nI (sT x)), .int (nI ev), .int (sd x), .int (nI R.length), .ref (u 2), .ref (u 3), .ref (u 4), .int (nI L9.length), .ref (u 5), .ref (u 6), .ref (u 7), .ref (u 8), .int (nI N9), .ref (u 9), .ref (u 10)])), ((u 1), .inl (cF, 256, .inr (.inr (.inl (sc x))))), ((u 2), .inl (cI, 64, .inl r1)), ((u 3), .inl (cI, 64, .inl r2)), ((u 4), .inl (cF, 64, .inr (.inr (.inl r3)))), ((u 5), .inl (cI, 512, .inl g1)), ((u 6), .inl (cI, 512, .inl g2)), ((u 7), .inl (cI, 512, .inl g3)), ((u 8), .inl (cF, 512, .inr (.inr (.inl g4)))), ((u 9), .inl (cI, 16, .inl (upd m1 a (nI (sT x))))), ((u 10), .inl (cF, 4096, .inr (.inr (.inl (va_cpy (sc x) m2 0 (256 * a) i)))))]) H := hP
        have hD : va_D A ([((u 0), .inr (4, [.int th, .int (nI n), .ref (u 1), .int (nI (sT x)), .int (nI ev), .int (sd x), .int (nI R.length), .ref (u 2), .ref (u 3), .ref (u 4), .int (nI L9.length), .ref (u 5), .ref (u 6), .ref (u 7), .ref (u 8), .int (nI N9), .ref (u 9), .ref (u 10)])), ((u 1), .inl (cF, 256, .inr (.inr (.inl (sc x))))), ((u 2), .inl (cI, 64, .inl r1)), ((u 3), .inl (cI, 64, .inl r2)), ((u 4), .inl (cF, 64, .inr (.inr (.inl r3)))), ((u 5), .inl (cI, 512, .inl g1)), ((u 6), .inl (cI, 512, .inl g2)), ((u 7), .inl (cI, 512, .inl g3)), ((u 8), .inl (cF, 512, .inr (.inr (.inl g4)))), ((u 9), .inl (cI, 16, .inl (upd m1 a (nI (sT x))))), ((u 10), .inl (cF, 4096, .inr (.inr (.inl (va_cpy (sc x) m2 0 (256 * a) i)))))]) := hD
        refine lv_iload_n hx hb dX4_keepNow_67 rfl (lv_at hl 0 rfl) ?_
        refine lv_aload_n hx hb dX4_keepNow_68 rfl (lv_at hl 2 rfl) ?_
        refine va_get (D := D) (ci := 4) (v := .int (nI n)) (C := RX4) (T := TX4) (N := 18) hx hb hts hiX4 hown hK hP 0 rfl rfl 1 (by decide) (hts (.fieldLink RX4 41 "StateKeeperModel" "n" "I") (List.mem_of_getElem? (i := 4) rfl)) (fun _ h9 => h9) rfl dX4_keepNow_69 ?_
        refine lv_icmp_ge (tgt := 99) hx hb dX4_keepNow_72 (by decide) (fun c1 => absurd c1 (nI_ge (by omega) (by omega))) (fun c1 => ?_)
        refine lv_aload_n hx hb dX4_keepNow_75 rfl (lv_at hl 2 rfl) ?_
        refine va_get (D := D) (ci := 4) (v := .ref (u 10)) (C := RX4) (T := TX4) (N := 18) hx hb hts hiX4 hown hK hP 0 rfl rfl 17 (by decide) (hts (.fieldLink RX4 38 "StateKeeperModel" "keptCells" "[F") (List.mem_of_getElem? (i := 5) rfl)) (fun _ h9 => h9) rfl dX4_keepNow_76 ?_
        refine lv_sipush (v := nI 256) hx hb dX4_keepNow_79 (by decide) ?_
        refine lv_iload_n hx hb dX4_keepNow_82 rfl (lv_at hl 1 rfl) ?_
        refine lv_imul hx hb dX4_keepNow_83 ?_
        refine lz_i (pk_mul _ _) ?_
        refine lv_iload_n hx hb dX4_keepNow_84 rfl (lv_at hl 0 rfl) ?_
        refine lv_iadd hx hb dX4_keepNow_85 ?_
        refine lz_i (nI_add _ _) ?_
        refine lv_aload_n hx hb dX4_keepNow_86 rfl (lv_at hl 2 rfl) ?_
        refine va_get (D := D) (ci := 4) (v := .ref (u 1)) (C := RX4) (T := TX4) (N := 18) hx hb hts hiX4 hown hK hP 0 rfl rfl 2 (by decide) (hts (.fieldLink RX4 7 "StateKeeperModel" "cells" "[F") (List.mem_of_getElem? (i := 6) rfl)) (fun _ h9 => h9) rfl dX4_keepNow_87 ?_
        refine lv_iload_n hx hb dX4_keepNow_90 rfl (lv_at hl 0 rfl) ?_
        refine lz_fald hx hb hK hP 1 0 rfl rfl (by omega) (by omega) dX4_keepNow_91 ?_
        refine lz_fast hx hb hK hP hD hS 10 0 rfl rfl (by omega) (by omega) dX4_keepNow_92 (fun H locs hP hD hS => ?_)
        have hP : va_P D vwCl ([((u 0), .inr (4, [.int th, .int (nI n), .ref (u 1), .int (nI (sT x)), .int (nI ev), .int (sd x), .int (nI R.length), .ref (u 2), .ref (u 3), .ref (u 4), .int (nI L9.length), .ref (u 5), .ref (u 6), .ref (u 7), .ref (u 8), .int (nI N9), .ref (u 9), .ref (u 10)])), ((u 1), .inl (cF, 256, .inr (.inr (.inl (sc x))))), ((u 2), .inl (cI, 64, .inl r1)), ((u 3), .inl (cI, 64, .inl r2)), ((u 4), .inl (cF, 64, .inr (.inr (.inl r3)))), ((u 5), .inl (cI, 512, .inl g1)), ((u 6), .inl (cI, 512, .inl g2)), ((u 7), .inl (cI, 512, .inl g3)), ((u 8), .inl (cF, 512, .inr (.inr (.inl g4)))), ((u 9), .inl (cI, 16, .inl (upd m1 a (nI (sT x))))), ((u 10), .inl (cF, 4096, .inr (.inr (.inl (vf_upd (va_cpy (sc x) m2 0 (256 * a) i) ((256 * a) + i) ((sc x) i))))))]) H := hP
        have hD : va_D A ([((u 0), .inr (4, [.int th, .int (nI n), .ref (u 1), .int (nI (sT x)), .int (nI ev), .int (sd x), .int (nI R.length), .ref (u 2), .ref (u 3), .ref (u 4), .int (nI L9.length), .ref (u 5), .ref (u 6), .ref (u 7), .ref (u 8), .int (nI N9), .ref (u 9), .ref (u 10)])), ((u 1), .inl (cF, 256, .inr (.inr (.inl (sc x))))), ((u 2), .inl (cI, 64, .inl r1)), ((u 3), .inl (cI, 64, .inl r2)), ((u 4), .inl (cF, 64, .inr (.inr (.inl r3)))), ((u 5), .inl (cI, 512, .inl g1)), ((u 6), .inl (cI, 512, .inl g2)), ((u 7), .inl (cI, 512, .inl g3)), ((u 8), .inl (cF, 512, .inr (.inr (.inl g4)))), ((u 9), .inl (cI, 16, .inl (upd m1 a (nI (sT x))))), ((u 10), .inl (cF, 4096, .inr (.inr (.inl (vf_upd (va_cpy (sc x) m2 0 (256 * a) i) ((256 * a) + i) ((sc x) i))))))]) := hD
        have e8 : vf_upd (va_cpy (sc x) m2 0 (256 * a) i) (256 * a + i) (sc x i) = va_cpy (sc x) m2 0 (256 * a) (i + 1) := by have := cpy_s (sc x) m2 0 (256 * a) i; rw [Nat.zero_add] at this; exact this
        refine lv_iinc (v := nI (i + 1)) (lv' := [(2, .int (nI (i + 1))), (1, .int (nI a)), (0, .ref (u 0))]) hx hb dX4_keepNow_93 hl (k := 0) rfl (nI_add _ 1) (by decide) rfl (fun ls hl => ?_)
        refine lv_goto (tgt := 67) hx hb dX4_keepNow_96 (by decide) ?_
        rw [e8] at hP hD
        exact ih (i + 1) (by omega) H locs ls hP hD hS (lv_sub hl [0, 1, 2] rfl)
    exact loop n 0 (by omega) H locs ls (by rw [cpy_0]; exact hP) (by rw [cpy_0]; exact hD) hS (lv_sub hl [0, 1, 2] rfl)
  refine lv_aload_n hx hb dX4_keepNow_0 rfl (lv_at hl 0 rfl) ?_
  refine lv_aload_n hx hb dX4_keepNow_1 rfl (lv_at hl 0 rfl) ?_
  refine va_get (D := D) (ci := 4) (v := .int (nI (sT x))) (C := RX4) (T := TX4) (N := 18) hx hb hts hiX4 hown hK hP 0 rfl rfl 3 (by decide) (hts (.fieldLink RX4 62 "StateKeeperModel" "now" "I") (List.mem_of_getElem? (i := 1) rfl)) (fun _ h9 => h9) rfl dX4_keepNow_2 ?_
  refine vp_callSi (lz_runV (C := RX4) (As := [.int (nI (sT x))]) (rest := []) hC hS hl (c_X4_placeOf hS2 hw) (cwV 1 hts gX4_keepNow_X4_placeOf rfl rfl rfl (by decide +kernel) ⟨Nat.le_of_ble_eq_true rfl, Nat.le_of_ble_eq_true rfl⟩) hP hD (va_recv hK hP (ci := 4) (q0 := 0) rfl rfl) rfl rfl (Nat.le_of_ble_eq_true rfl) dX4_keepNow_5 ⟨Nat.le_of_ble_eq_true rfl, Nat.le_of_ble_eq_true rfl⟩).run (fun r_2 er_2 => ?_)
  subst er_2
  refine lz_i (y := opI (plc (sS x) (sT x : Int))) (by rw [nI_toInt (by omega)]) ?_
  cases hpl : plc (sS x) (sT x : Int) with
  | some j =>
    obtain ⟨e9, he9, hez⟩ := plc_spec hpl
    have hjl : j < (sS x).length := (List.getElem?_eq_some_iff.mp he9).1
    refine lz_i (y := nI j) (by rfl) ?_
    refine lv_istore_n (lv' := [(1, .int (nI j)), (0, .ref (u 0))]) hx hb dX4_keepNow_8 rfl hl (by decide) rfl (fun ls hl => ?_)
    refine lv_iload_n hx hb dX4_keepNow_9 rfl (lv_at hl 0 rfl) ?_
    refine lv_if_ge (tgt := 55) hx hb dX4_keepNow_10 (by decide) (fun c_3 => ?_) (fun c_3 => absurd (iz_ge0.mpr (by rw [nI_toInt (by omega)]; omega)) c_3)
    exact last2 j (sS x).length (sL x) (sS x) ((sS x).set j (sT x, sc x)) r1 r2 r3 f1 f2 f3 f4 k1 kc (by omega) hdr hrec hks (snap_set hjl) List.length_set (by unfold kp; rw [show kpL (sS x) (sT x) (sc x) (sL x) = sL x from if_neg (fun q => by rw [hpl] at q; cases q.1), show snapT (sS x) (sT x) (sc x) = (sS x).set j (sT x, sc x) by unfold snapT; rw [hpl]]) s.heap [] ls hP hD hS (lv_sub hl [0, 1] rfl)
  | none =>
    refine lz_i (y := -1) (by rfl) ?_
    refine lv_istore_n (lv' := [(1, .int (-1)), (0, .ref (u 0))]) hx hb dX4_keepNow_8 rfl hl (by decide) rfl (fun ls hl => ?_)
    refine lv_iload_n hx hb dX4_keepNow_9 rfl (lv_at hl 0 rfl) ?_
    refine lv_if_ge (tgt := 55) hx hb dX4_keepNow_10 (by decide) (fun c_4 => absurd c_4 (by decide)) (fun c_4 => ?_)
    refine lv_aload_n hx hb dX4_keepNow_13 rfl (lv_at hl 1 rfl) ?_
    refine va_get (D := D) (ci := 4) (v := .int (nI ((sS x).length))) (C := RX4) (T := TX4) (N := 18) hx hb hts hiX4 hown hK hP 0 rfl rfl 15 (by decide) (hts (.fieldLink RX4 101 "StateKeeperModel" "snapshots" "I") (List.mem_of_getElem? (i := 2) rfl)) (fun _ h9 => h9) rfl dX4_keepNow_14 ?_
    refine lv_bipush (v := nI 16) hx hb dX4_keepNow_17 (by decide) ?_
    refine lv_icmp_ne (tgt := 40) hx hb dX4_keepNow_19 (by decide) (fun c_5 => ?_) (fun c_5 => ?_)
    · have h16 : ¬ (sS x).length = 16 := fun q => c_5 ((nI_eq (by omega) (by omega)).mpr q)
      refine lv_aload_n hx hb dX4_keepNow_40 rfl (lv_at hl 1 rfl) ?_
      refine va_get (D := D) (ci := 4) (v := .int (nI ((sS x).length))) (C := RX4) (T := TX4) (N := 18) hx hb hts hiX4 hown hK hP 0 rfl rfl 15 (by decide) (hts (.fieldLink RX4 101 "StateKeeperModel" "snapshots" "I") (List.mem_of_getElem? (i := 2) rfl)) (fun _ h9 => h9) rfl dX4_keepNow_41 ?_
      refine lv_istore_n (lv' := [(1, .int (nI ((sS x).length))), (0, .ref (u 0))]) hx hb dX4_keepNow_44 rfl hl (by decide) rfl (fun ls hl => ?_)
      refine lv_aload_n hx hb dX4_keepNow_45 rfl (lv_at hl 1 rfl) ?_
      refine lv_dup hx hb dX4_keepNow_46 rfl ?_
      refine va_get (D := D) (ci := 4) (v := .int (nI ((sS x).length))) (C := RX4) (T := TX4) (N := 18) hx hb hts hiX4 hown hK hP 0 rfl rfl 15 (by decide) (hts (.fieldLink RX4 101 "StateKeeperModel" "snapshots" "I") (List.mem_of_getElem? (i := 2) rfl)) (fun _ h9 => h9) rfl dX4_keepNow_47 ?_
      refine lv_iconst (v := nI 1) hx hb dX4_keepNow_50 (by decide) ?_
      refine lv_iadd hx hb dX4_keepNow_51 ?_
      refine lz_i (nI_add _ _) ?_
      refine va_put (D := D) (ci := 4) (v := .int (nI (((sS x).length) + 1))) (ty := .int) (C := RX4) (T := TX4) (N := 18) hx hb hts hiX4 tyX4 tyX4_ok nmX4 hown hK hP hD hS 0 rfl rfl 15 (by decide) (hts (.fieldLink RX4 101 "StateKeeperModel" "snapshots" "I") (List.mem_of_getElem? (i := 2) rfl)) (fun _ h9 => h9) rfl (by decide +kernel) rfl rfl (Nat.le_of_ble_eq_true rfl) dX4_keepNow_52 (fun H locs hP hD hS => ?_)
      have hP : va_P D vwCl ([((u 0), .inr (4, [.int th, .int (nI n), .ref (u 1), .int (nI (sT x)), .int (nI ev), .int (sd x), .int (nI R.length), .ref (u 2), .ref (u 3), .ref (u 4), .int (nI ((sL x).length)), .ref (u 5), .ref (u 6), .ref (u 7), .ref (u 8), .int (nI (((sS x).length) + 1)), .ref (u 9), .ref (u 10)])), ((u 1), .inl (cF, 256, .inr (.inr (.inl (sc x))))), ((u 2), .inl (cI, 64, .inl r1)), ((u 3), .inl (cI, 64, .inl r2)), ((u 4), .inl (cF, 64, .inr (.inr (.inl r3)))), ((u 5), .inl (cI, 512, .inl f1)), ((u 6), .inl (cI, 512, .inl f2)), ((u 7), .inl (cI, 512, .inl f3)), ((u 8), .inl (cF, 512, .inr (.inr (.inl f4)))), ((u 9), .inl (cI, 16, .inl k1)), ((u 10), .inl (cF, 4096, .inr (.inr (.inl kc))))]) H := hP
      have hD : va_D A ([((u 0), .inr (4, [.int th, .int (nI n), .ref (u 1), .int (nI (sT x)), .int (nI ev), .int (sd x), .int (nI R.length), .ref (u 2), .ref (u 3), .ref (u 4), .int (nI ((sL x).length)), .ref (u 5), .ref (u 6), .ref (u 7), .ref (u 8), .int (nI (((sS x).length) + 1)), .ref (u 9), .ref (u 10)])), ((u 1), .inl (cF, 256, .inr (.inr (.inl (sc x))))), ((u 2), .inl (cI, 64, .inl r1)), ((u 3), .inl (cI, 64, .inl r2)), ((u 4), .inl (cF, 64, .inr (.inr (.inl r3)))), ((u 5), .inl (cI, 512, .inl f1)), ((u 6), .inl (cI, 512, .inl f2)), ((u 7), .inl (cI, 512, .inl f3)), ((u 8), .inl (cF, 512, .inr (.inr (.inl f4)))), ((u 9), .inl (cI, 16, .inl k1)), ((u 10), .inl (cF, 4096, .inr (.inr (.inl kc))))]) := hD
      exact last2 (sS x).length ((sS x).length + 1) (sL x) (sS x) (sS x ++ [(sT x, sc x)]) r1 r2 r3 f1 f2 f3 f4 k1 kc (by omega) hdr hrec hks snap_app List.length_append (by unfold kp; rw [show kpL (sS x) (sT x) (sc x) (sL x) = sL x from if_neg (fun q => h16 q.2), show snapT (sS x) (sT x) (sc x) = sS x ++ [(sT x, sc x)] by unfold snapT; rw [hpl, if_neg h16]]) _ _ ls hP hD hS (lv_sub hl [0, 1] rfl)
    · have h16 : (sS x).length = 16 := (nI_eq (by omega) (by omega)).mp c_5
      refine lv_aload_n hx hb dX4_keepNow_22 rfl (lv_at hl 1 rfl) ?_
      refine lz_cMv0 (lz_runV (C := RX4) (As := []) (rest := []) hC hS hl (c_X4_moveDown (by omega) hS8 hn hw) (cwV 0 hts gX4_keepNow_X4_moveDown rfl rfl rfl (by decide +kernel) ⟨Nat.le_of_ble_eq_true rfl, Nat.le_of_ble_eq_true rfl⟩) hP hD (va_recv hK hP (ci := 4) (q0 := 0) rfl rfl) rfl rfl (Nat.le_of_ble_eq_true rfl) dX4_keepNow_23 ⟨Nat.le_of_ble_eq_true rfl, Nat.le_of_ble_eq_true rfl⟩) hD hS hA (fun w1 h => h.ad2 hw) (fun w1 H locs hpo hP hD hS => ?_)
      have hw2 := hpo
      obtain ⟨r4, r5, r6, g1, g2, g3, g4, m1, m2, hdr2, hrec2, hks2, hw1⟩ := id hw2
      have hP2 := id hP
      rw [hw1] at hP2
      have htl : (sS x).tail.length = 15 := by rw [List.length_tail]; omega
      obtain ⟨e8, he8⟩ : ∃ e8, (sS x).tail[0]? = some e8 := ⟨_, List.getElem?_eq_getElem (by omega)⟩
      have hs0 : s0 (snapT (sS x) (sT x) (sc x)) = e8.1 := by
        unfold snapT
        rw [hpl, if_pos h16]
        show s0 ((sS x).tail ++ [(sT x, sc x)]) = e8.1
        cases hq : (sS x).tail with
        | nil => rw [hq] at he8; cases he8
        | cons y t => rw [hq] at he8; cases he8; rfl
      have hb8 : e8.1 < 2 ^ 30 := hS2.2.2 e8 (List.mem_of_mem_tail (List.mem_of_getElem? he8))
      refine lv_aload_n hx hb dX4_keepNow_26 rfl (lv_at hl 1 rfl) ?_
      refine lv_iconst (v := nI 0) hx hb dX4_keepNow_27 (by decide) ?_
      refine lv_aload_n hx hb dX4_keepNow_28 rfl (lv_at hl 1 rfl) ?_
      refine va_get (D := D) (ci := 4) (v := .ref (u 9)) (C := RX4) (T := TX4) (N := 18) hx hb hts hiX4 hown hK hP2 0 rfl rfl 16 (by decide) (hts (.fieldLink RX4 35 "StateKeeperModel" "keptSteps" "[I") (List.mem_of_getElem? (i := 3) rfl)) (fun _ h9 => h9) rfl dX4_keepNow_29 ?_
      refine lv_iconst (v := nI 0) hx hb dX4_keepNow_32 (by decide) ?_
      refine lz_iald hx hb hK hP2 9 1 rfl rfl (by omega) (by omega) dX4_keepNow_33 ?_
      refine lz_i (y := nI e8.1) (hks2 0 e8 he8).1 ?_
      refine lv_iconst (v := nI 1) hx hb dX4_keepNow_34 (by decide) ?_
      refine lv_isub hx hb dX4_keepNow_35 ?_
      refine lz_cMi0 (lz_runV (C := RX4) (As := [.int (nI 0), .int ((nI e8.1) - (nI 1))]) (rest := []) hC hS hl (c_X4_drop (x := (sc x, sT x, sd x, sL x, (sS x).tail)) hL hw2) (cwV 2 hts gX4_keepNow_X4_drop rfl rfl rfl (by decide +kernel) ⟨Nat.le_of_ble_eq_true rfl, Nat.le_of_ble_eq_true rfl⟩) hP hD (va_recv hK hP2 (ci := 4) (q0 := 0) rfl rfl) rfl rfl (Nat.le_of_ble_eq_true rfl) dX4_keepNow_36 ⟨Nat.le_of_ble_eq_true rfl, Nat.le_of_ble_eq_true rfl⟩) hD hS hA (fun r w1 h => h.2.ad2 hw2) (fun r_6 w1 H locs hpo hP hD hS => ?_)
      obtain ⟨-, hw3⟩ := hpo
      obtain ⟨r7, r8, r9, g5, g6, g7, g8, m3, m4, hdr3, hrec3, hks3, rfl⟩ := id hw3
      have hP : va_P D vwCl ([((u 0), .inr (4, [.int th, .int (nI n), .ref (u 1), .int (nI (sT x)), .int (nI ev), .int (sd x), .int (nI R.length), .ref (u 2), .ref (u 3), .ref (u 4), .int (nI (((sL x).filter (fun e => decide (¬ ((nI 0).toInt ≤ (e.1 : Int) ∧ (e.1 : Int) ≤ (nI e8.1 - nI 1).toInt)))).length)), .ref (u 5), .ref (u 6), .ref (u 7), .ref (u 8), .int (nI ((sS x).tail.length)), .ref (u 9), .ref (u 10)])), ((u 1), .inl (cF, 256, .inr (.inr (.inl (sc x))))), ((u 2), .inl (cI, 64, .inl r7)), ((u 3), .inl (cI, 64, .inl r8)), ((u 4), .inl (cF, 64, .inr (.inr (.inl r9)))), ((u 5), .inl (cI, 512, .inl g5)), ((u 6), .inl (cI, 512, .inl g6)), ((u 7), .inl (cI, 512, .inl g7)), ((u 8), .inl (cF, 512, .inr (.inr (.inl g8)))), ((u 9), .inl (cI, 16, .inl m3)), ((u 10), .inl (cF, 4096, .inr (.inr (.inl m4))))]) H := hP
      have hD : va_D A ([((u 0), .inr (4, [.int th, .int (nI n), .ref (u 1), .int (nI (sT x)), .int (nI ev), .int (sd x), .int (nI R.length), .ref (u 2), .ref (u 3), .ref (u 4), .int (nI (((sL x).filter (fun e => decide (¬ ((nI 0).toInt ≤ (e.1 : Int) ∧ (e.1 : Int) ≤ (nI e8.1 - nI 1).toInt)))).length)), .ref (u 5), .ref (u 6), .ref (u 7), .ref (u 8), .int (nI ((sS x).tail.length)), .ref (u 9), .ref (u 10)])), ((u 1), .inl (cF, 256, .inr (.inr (.inl (sc x))))), ((u 2), .inl (cI, 64, .inl r7)), ((u 3), .inl (cI, 64, .inl r8)), ((u 4), .inl (cF, 64, .inr (.inr (.inl r9)))), ((u 5), .inl (cI, 512, .inl g5)), ((u 6), .inl (cI, 512, .inl g6)), ((u 7), .inl (cI, 512, .inl g7)), ((u 8), .inl (cF, 512, .inr (.inr (.inl g8)))), ((u 9), .inl (cI, 16, .inl m3)), ((u 10), .inl (cF, 4096, .inr (.inr (.inl m4))))]) := hD
      refine lv_istore_n (lv' := [(2, .int r_6), (1, .int (-1)), (0, .ref (u 0))]) hx hb dX4_keepNow_39 rfl hl (by decide) rfl (fun ls hl => ?_)
      refine lv_aload_n hx hb dX4_keepNow_40 rfl (lv_at hl 2 rfl) ?_
      refine va_get (D := D) (ci := 4) (v := .int (nI ((sS x).tail.length))) (C := RX4) (T := TX4) (N := 18) hx hb hts hiX4 hown hK hP 0 rfl rfl 15 (by decide) (hts (.fieldLink RX4 101 "StateKeeperModel" "snapshots" "I") (List.mem_of_getElem? (i := 2) rfl)) (fun _ h9 => h9) rfl dX4_keepNow_41 ?_
      refine lv_istore_n (lv' := [(1, .int (nI ((sS x).tail.length))), (2, .int r_6), (0, .ref (u 0))]) hx hb dX4_keepNow_44 rfl hl (by decide) rfl (fun ls hl => ?_)
      refine lv_aload_n hx hb dX4_keepNow_45 rfl (lv_at hl 2 rfl) ?_
      refine lv_dup hx hb dX4_keepNow_46 rfl ?_
      refine va_get (D := D) (ci := 4) (v := .int (nI ((sS x).tail.length))) (C := RX4) (T := TX4) (N := 18) hx hb hts hiX4 hown hK hP 0 rfl rfl 15 (by decide) (hts (.fieldLink RX4 101 "StateKeeperModel" "snapshots" "I") (List.mem_of_getElem? (i := 2) rfl)) (fun _ h9 => h9) rfl dX4_keepNow_47 ?_
      refine lv_iconst (v := nI 1) hx hb dX4_keepNow_50 (by decide) ?_
      refine lv_iadd hx hb dX4_keepNow_51 ?_
      refine lz_i (nI_add _ _) ?_
      refine va_put (D := D) (ci := 4) (v := .int (nI (((sS x).tail.length) + 1))) (ty := .int) (C := RX4) (T := TX4) (N := 18) hx hb hts hiX4 tyX4 tyX4_ok nmX4 hown hK hP hD hS 0 rfl rfl 15 (by decide) (hts (.fieldLink RX4 101 "StateKeeperModel" "snapshots" "I") (List.mem_of_getElem? (i := 2) rfl)) (fun _ h9 => h9) rfl (by decide +kernel) rfl rfl (Nat.le_of_ble_eq_true rfl) dX4_keepNow_52 (fun H locs hP hD hS => ?_)
      have hP : va_P D vwCl ([((u 0), .inr (4, [.int th, .int (nI n), .ref (u 1), .int (nI (sT x)), .int (nI ev), .int (sd x), .int (nI R.length), .ref (u 2), .ref (u 3), .ref (u 4), .int (nI (((sL x).filter (fun e => decide (¬ ((nI 0).toInt ≤ (e.1 : Int) ∧ (e.1 : Int) ≤ (nI e8.1 - nI 1).toInt)))).length)), .ref (u 5), .ref (u 6), .ref (u 7), .ref (u 8), .int (nI (((sS x).tail.length) + 1)), .ref (u 9), .ref (u 10)])), ((u 1), .inl (cF, 256, .inr (.inr (.inl (sc x))))), ((u 2), .inl (cI, 64, .inl r7)), ((u 3), .inl (cI, 64, .inl r8)), ((u 4), .inl (cF, 64, .inr (.inr (.inl r9)))), ((u 5), .inl (cI, 512, .inl g5)), ((u 6), .inl (cI, 512, .inl g6)), ((u 7), .inl (cI, 512, .inl g7)), ((u 8), .inl (cF, 512, .inr (.inr (.inl g8)))), ((u 9), .inl (cI, 16, .inl m3)), ((u 10), .inl (cF, 4096, .inr (.inr (.inl m4))))]) H := hP
      have hD : va_D A ([((u 0), .inr (4, [.int th, .int (nI n), .ref (u 1), .int (nI (sT x)), .int (nI ev), .int (sd x), .int (nI R.length), .ref (u 2), .ref (u 3), .ref (u 4), .int (nI (((sL x).filter (fun e => decide (¬ ((nI 0).toInt ≤ (e.1 : Int) ∧ (e.1 : Int) ≤ (nI e8.1 - nI 1).toInt)))).length)), .ref (u 5), .ref (u 6), .ref (u 7), .ref (u 8), .int (nI (((sS x).tail.length) + 1)), .ref (u 9), .ref (u 10)])), ((u 1), .inl (cF, 256, .inr (.inr (.inl (sc x))))), ((u 2), .inl (cI, 64, .inl r7)), ((u 3), .inl (cI, 64, .inl r8)), ((u 4), .inl (cF, 64, .inr (.inr (.inl r9)))), ((u 5), .inl (cI, 512, .inl g5)), ((u 6), .inl (cI, 512, .inl g6)), ((u 7), .inl (cI, 512, .inl g7)), ((u 8), .inl (cF, 512, .inr (.inr (.inl g8)))), ((u 9), .inl (cI, 16, .inl m3)), ((u 10), .inl (cF, 4096, .inr (.inr (.inl m4))))]) := hD
      have hst : sd x = sd x := rfl
      have hfe : ((sL x).filter (fun e => decide (¬ ((nI 0).toInt ≤ (e.1 : Int) ∧ (e.1 : Int) ≤ (nI e8.1 - nI 1).toInt)))) = (sL x).filter (fun e => decide ((s0 (snapT (sS x) (sT x) (sc x)) : Int) ≤ (e.1 : Int))) := by
        rw [hs0]
        refine List.filter_congr fun e he => ?_
        have h9 := hL.2 e he
        have h8 : (nI e8.1 - nI 1).toInt = (e8.1 : Int) - 1 := by
          rw [Int32.toInt_sub, nI_toInt (by omega), nI_toInt (by omega)]
          exact Int.bmod_eq_of_le (by omega) (by omega)
        rw [h8, nI_toInt (by omega)]
        exact decide_eq_decide.mpr (by omega)
      exact last2 (sS x).tail.length ((sS x).tail.length + 1) _ (sS x).tail ((sS x).tail ++ [(sT x, sc x)]) r7 r8 r9 g5 g6 g7 g8 m3 m4 (by omega) hdr3 hrec3 hks3 snap_app List.length_append (by unfold kp; rw [show kpL (sS x) (sT x) (sc x) (sL x) = (sL x).filter (fun e => decide ((s0 (snapT (sS x) (sT x) (sc x)) : Int) ≤ (e.1 : Int))) from if_pos ⟨hpl, h16⟩, ← hfe, show snapT (sS x) (sT x) (sc x) = (sS x).tail ++ [(sT x, sc x)] by unfold snapT; rw [hpl, if_pos h16]]) _ _ ls hP hD hS (lv_sub hl [0, 2] rfl)

set_option maxRecDepth 100000 in
set_option maxHeartbeats 4000000 in
/-- once() -/
theorem c_X4_once (hw : WM cI cF u n ev th R x w) (hx0 : Ok n ev R x) (hT1 : sT x + 1 < 2 ^ 29) : Met l yX4_once wsX4_once (rmk 2 0 0) (pcW l D cI cF cQ aT [.ref (u 0)] w sz) (va_Qv (fun (w1 : va_W) => WM cI cF u n ev th R (stp R ev x) w1) (fun w1 t => va_P D vwCl w1 t.heap) (va_A w sz)) 0 0 (va_A w sz) := by
  refine lz_ofM (Qf := fun A => va_Qv (fun (w1 : va_W) => WM cI cF u n ev th R (stp R ev x) w1) (fun w1 t => va_P D vwCl w1 t.heap) A) (cc := cX4_once) (maxL := 2) (ret := none) (by decide) rfl (Nat.le_of_ble_eq_true rfl) ?_
  intro p e s m below meth c A hAe hsz hx hb hr hlk hin hC hP hD hS ls hl
  clear hAe
  have hl0 : lv_has ls 2 [(0, .ref (u 0))] := hl
  have hts := hC.1.2.2.2.2
  have hown : s.vm.findClass RX4 = some m.cls := hC.1.2.2.2.1
  have hml := hC.1.2.2.1
  have hA := hC.2.1
  have hK := hC.2.2.2.1
  have hnm := hC.2.2.2.2.1
  have hnf := hC.2.2.2.2.2.1
  have hiX4 : ∀ w ∈ u_ws RX4 TX4 18, w ∈ wsX4_once := fun _ h => List.mem_cons_of_mem _ (List.mem_append_right _ h)
  have hl : lv_has ls 2 [(0, .ref (u 0))] := hl
  have hn9 := hx0.1.2
  have hn1 := hx0.1.1
  have hev9 := hx0.2.1
  have hR9 : dIn n R := hx0.2.2.1
  have hcf : cfin (sc x) := hx0.2.2.2.1
  have hT9 : sT x < 2 ^ 29 := hx0.2.2.2.2.1
  have hL9 : rIn n (sL x) := hx0.2.2.2.2.2.1
  have hS9 : sGood (sS x) := hx0.2.2.2.2.2.2.1
  have hL8 := hL9.1
  have hS8 := hS9.2.1
  have hR8 := hR9.1
  have hcf1 : cfin ((fl (sL x) (sT x : Int)).foldl actC (sc x)) := acts_fin (fun e he => (hL9.2 e (List.mem_filter.mp he).1).2.2.2) hcf
  have drifts : ∀ (r i : Nat), r + i = R.length → ∀ (r1 r2 : Nat → Int32) (r3 : Nat → UInt32) (f1 f2 f3 : Nat → Int32) (f4 : Nat → UInt32) (k1 : Nat → Int32) (kc : Nat → UInt32), drOk R r1 r2 r3 → recOk (sL x) f1 f2 f3 f4 → ksOk n (sS x) k1 kc → ∀ (H : Heap) (locs : List Loc) (ls : Array Slot), va_P D vwCl ([((u 0), .inr (4, [.int th, .int (nI n), .ref (u 1), .int (nI (sT x)), .int (nI ev), .int (sd x), .int (nI R.length), .ref (u 2), .ref (u 3), .ref (u 4), .int (nI ((sL x).length)), .ref (u 5), .ref (u 6), .ref (u 7), .ref (u 8), .int (nI ((sS x).length)), .ref (u 9), .ref (u 10)])), ((u 1), .inl (cF, 256, .inr (.inr (.inl ((seg R 0 i).foldl drf ((fl (sL x) (sT x : Int)).foldl actC (sc x))))))), ((u 2), .inl (cI, 64, .inl r1)), ((u 3), .inl (cI, 64, .inl r2)), ((u 4), .inl (cF, 64, .inr (.inr (.inl r3)))), ((u 5), .inl (cI, 512, .inl f1)), ((u 6), .inl (cI, 512, .inl f2)), ((u 7), .inl (cI, 512, .inl f3)), ((u 8), .inl (cF, 512, .inr (.inr (.inl f4)))), ((u 9), .inl (cI, 16, .inl k1)), ((u 10), .inl (cF, 4096, .inr (.inr (.inl kc))))]) H → va_D A ([((u 0), .inr (4, [.int th, .int (nI n), .ref (u 1), .int (nI (sT x)), .int (nI ev), .int (sd x), .int (nI R.length), .ref (u 2), .ref (u 3), .ref (u 4), .int (nI ((sL x).length)), .ref (u 5), .ref (u 6), .ref (u 7), .ref (u 8), .int (nI ((sS x).length)), .ref (u 9), .ref (u 10)])), ((u 1), .inl (cF, 256, .inr (.inr (.inl ((seg R 0 i).foldl drf ((fl (sL x) (sT x : Int)).foldl actC (sc x))))))), ((u 2), .inl (cI, 64, .inl r1)), ((u 3), .inl (cI, 64, .inl r2)), ((u 4), .inl (cF, 64, .inr (.inr (.inl r3)))), ((u 5), .inl (cI, 512, .inl f1)), ((u 6), .inl (cI, 512, .inl f2)), ((u 7), .inl (cI, 512, .inl f3)), ((u 8), .inl (cF, 512, .inr (.inr (.inl f4)))), ((u 9), .inl (cI, 16, .inl k1)), ((u 10), .inl (cF, 4096, .inr (.inr (.inl kc))))]) → va_S A s.heap H locs → lv_has ls 2 [(1, .int (nI i)), (0, .ref (u 0))] → W p l e (rmk 2 0 0) s m [.ref (u 0)].toArray below meth c H locs 0 0 (MQ below (va_Qv (fun (w1 : va_W) => WM cI cF u n ev th R (stp R ev x) w1) (fun w1 t => va_P D vwCl w1 t.heap) A) [.ref (u 0)].toArray s 0 0 A) (F0 m 36 ls []) := by
    intro r
    induction r with
    | zero =>
      intro i h1 r1 r2 r3 f1 f2 f3 f4 k1 kc hdr hrec hks H locs ls hP hD hS hl
      have hl : lv_has ls 2 [(1, .int (nI i)), (0, .ref (u 0))] := hl
      have hP : va_P D vwCl ([((u 0), .inr (4, [.int th, .int (nI n), .ref (u 1), .int (nI (sT x)), .int (nI ev), .int (sd x), .int (nI R.length), .ref (u 2), .ref (u 3), .ref (u 4), .int (nI ((sL x).length)), .ref (u 5), .ref (u 6), .ref (u 7), .ref (u 8), .int (nI ((sS x).length)), .ref (u 9), .ref (u 10)])), ((u 1), .inl (cF, 256, .inr (.inr (.inl ((seg R 0 i).foldl drf ((fl (sL x) (sT x : Int)).foldl actC (sc x))))))), ((u 2), .inl (cI, 64, .inl r1)), ((u 3), .inl (cI, 64, .inl r2)), ((u 4), .inl (cF, 64, .inr (.inr (.inl r3)))), ((u 5), .inl (cI, 512, .inl f1)), ((u 6), .inl (cI, 512, .inl f2)), ((u 7), .inl (cI, 512, .inl f3)), ((u 8), .inl (cF, 512, .inr (.inr (.inl f4)))), ((u 9), .inl (cI, 16, .inl k1)), ((u 10), .inl (cF, 4096, .inr (.inr (.inl kc))))]) H := hP
      have hD : va_D A ([((u 0), .inr (4, [.int th, .int (nI n), .ref (u 1), .int (nI (sT x)), .int (nI ev), .int (sd x), .int (nI R.length), .ref (u 2), .ref (u 3), .ref (u 4), .int (nI ((sL x).length)), .ref (u 5), .ref (u 6), .ref (u 7), .ref (u 8), .int (nI ((sS x).length)), .ref (u 9), .ref (u 10)])), ((u 1), .inl (cF, 256, .inr (.inr (.inl ((seg R 0 i).foldl drf ((fl (sL x) (sT x : Int)).foldl actC (sc x))))))), ((u 2), .inl (cI, 64, .inl r1)), ((u 3), .inl (cI, 64, .inl r2)), ((u 4), .inl (cF, 64, .inr (.inr (.inl r3)))), ((u 5), .inl (cI, 512, .inl f1)), ((u 6), .inl (cI, 512, .inl f2)), ((u 7), .inl (cI, 512, .inl f3)), ((u 8), .inl (cF, 512, .inr (.inr (.inl f4)))), ((u 9), .inl (cI, 16, .inl k1)), ((u 10), .inl (cF, 4096, .inr (.inr (.inl kc))))]) := hD
      have hi2 : i = R.length := by omega
      subst hi2
      rw [seg_all] at hP hD
      have hP : va_P D vwCl ([((u 0), .inr (4, [.int th, .int (nI n), .ref (u 1), .int (nI (sT x)), .int (nI ev), .int (sd x), .int (nI R.length), .ref (u 2), .ref (u 3), .ref (u 4), .int (nI ((sL x).length)), .ref (u 5), .ref (u 6), .ref (u 7), .ref (u 8), .int (nI ((sS x).length)), .ref (u 9), .ref (u 10)])), ((u 1), .inl (cF, 256, .inr (.inr (.inl (stc R x))))), ((u 2), .inl (cI, 64, .inl r1)), ((u 3), .inl (cI, 64, .inl r2)), ((u 4), .inl (cF, 64, .inr (.inr (.inl r3)))), ((u 5), .inl (cI, 512, .inl f1)), ((u 6), .inl (cI, 512, .inl f2)), ((u 7), .inl (cI, 512, .inl f3)), ((u 8), .inl (cF, 512, .inr (.inr (.inl f4)))), ((u 9), .inl (cI, 16, .inl k1)), ((u 10), .inl (cF, 4096, .inr (.inr (.inl kc))))]) H := hP
      have hD : va_D A ([((u 0), .inr (4, [.int th, .int (nI n), .ref (u 1), .int (nI (sT x)), .int (nI ev), .int (sd x), .int (nI R.length), .ref (u 2), .ref (u 3), .ref (u 4), .int (nI ((sL x).length)), .ref (u 5), .ref (u 6), .ref (u 7), .ref (u 8), .int (nI ((sS x).length)), .ref (u 9), .ref (u 10)])), ((u 1), .inl (cF, 256, .inr (.inr (.inl (stc R x))))), ((u 2), .inl (cI, 64, .inl r1)), ((u 3), .inl (cI, 64, .inl r2)), ((u 4), .inl (cF, 64, .inr (.inr (.inl r3)))), ((u 5), .inl (cI, 512, .inl f1)), ((u 6), .inl (cI, 512, .inl f2)), ((u 7), .inl (cI, 512, .inl f3)), ((u 8), .inl (cF, 512, .inr (.inr (.inl f4)))), ((u 9), .inl (cI, 16, .inl k1)), ((u 10), .inl (cF, 4096, .inr (.inr (.inl kc))))]) := hD
      refine lv_iload_n hx hb dX4_once_36 rfl (lv_at hl 0 rfl) ?_
      refine lv_aload_n hx hb dX4_once_37 rfl (lv_at hl 1 rfl) ?_
      refine va_get (D := D) (ci := 4) (v := .int (nI R.length)) (C := RX4) (T := TX4) (N := 18) hx hb hts hiX4 hown hK hP 0 rfl rfl 6 (by decide) (hts (.fieldLink RX4 59 "StateKeeperModel" "drifts" "I") (List.mem_of_getElem? (i := 4) rfl)) (fun _ h9 => h9) rfl dX4_once_38 ?_
      refine lv_icmp_ge (tgt := 94) hx hb dX4_once_41 (by decide) (fun c_1 => ?_) (fun c_1 => absurd (nI_le (by omega) (by omega)) c_1)
      refine lv_aload_n hx hb dX4_once_94 rfl (lv_at hl 1 rfl) ?_
      refine lv_dup hx hb dX4_once_95 rfl ?_
      refine va_get (D := D) (ci := 4) (v := .int (nI (sT x))) (C := RX4) (T := TX4) (N := 18) hx hb hts hiX4 hown hK hP 0 rfl rfl 3 (by decide) (hts (.fieldLink RX4 62 "StateKeeperModel" "now" "I") (List.mem_of_getElem? (i := 3) rfl)) (fun _ h9 => h9) rfl dX4_once_96 ?_
      refine lv_iconst (v := nI 1) hx hb dX4_once_99 (by decide) ?_
      refine lv_iadd hx hb dX4_once_100 ?_
      refine lz_i (nI_add _ _) ?_
      refine va_put (D := D) (ci := 4) (v := .int (nI ((sT x) + 1))) (ty := .int) (C := RX4) (T := TX4) (N := 18) hx hb hts hiX4 tyX4 tyX4_ok nmX4 hown hK hP hD hS 0 rfl rfl 3 (by decide) (hts (.fieldLink RX4 62 "StateKeeperModel" "now" "I") (List.mem_of_getElem? (i := 3) rfl)) (fun _ h9 => h9) rfl (by decide +kernel) rfl rfl (Nat.le_of_ble_eq_true rfl) dX4_once_101 (fun H locs hP hD hS => ?_)
      have hP : va_P D vwCl ([((u 0), .inr (4, [.int th, .int (nI n), .ref (u 1), .int (nI ((sT x) + 1)), .int (nI ev), .int (sd x), .int (nI R.length), .ref (u 2), .ref (u 3), .ref (u 4), .int (nI ((sL x).length)), .ref (u 5), .ref (u 6), .ref (u 7), .ref (u 8), .int (nI ((sS x).length)), .ref (u 9), .ref (u 10)])), ((u 1), .inl (cF, 256, .inr (.inr (.inl (stc R x))))), ((u 2), .inl (cI, 64, .inl r1)), ((u 3), .inl (cI, 64, .inl r2)), ((u 4), .inl (cF, 64, .inr (.inr (.inl r3)))), ((u 5), .inl (cI, 512, .inl f1)), ((u 6), .inl (cI, 512, .inl f2)), ((u 7), .inl (cI, 512, .inl f3)), ((u 8), .inl (cF, 512, .inr (.inr (.inl f4)))), ((u 9), .inl (cI, 16, .inl k1)), ((u 10), .inl (cF, 4096, .inr (.inr (.inl kc))))]) H := hP
      have hD : va_D A ([((u 0), .inr (4, [.int th, .int (nI n), .ref (u 1), .int (nI ((sT x) + 1)), .int (nI ev), .int (sd x), .int (nI R.length), .ref (u 2), .ref (u 3), .ref (u 4), .int (nI ((sL x).length)), .ref (u 5), .ref (u 6), .ref (u 7), .ref (u 8), .int (nI ((sS x).length)), .ref (u 9), .ref (u 10)])), ((u 1), .inl (cF, 256, .inr (.inr (.inl (stc R x))))), ((u 2), .inl (cI, 64, .inl r1)), ((u 3), .inl (cI, 64, .inl r2)), ((u 4), .inl (cF, 64, .inr (.inr (.inl r3)))), ((u 5), .inl (cI, 512, .inl f1)), ((u 6), .inl (cI, 512, .inl f2)), ((u 7), .inl (cI, 512, .inl f3)), ((u 8), .inl (cF, 512, .inr (.inr (.inl f4)))), ((u 9), .inl (cI, 16, .inl k1)), ((u 10), .inl (cF, 4096, .inr (.inr (.inl kc))))]) := hD
      refine lv_aload_n hx hb dX4_once_104 rfl (lv_at hl 1 rfl) ?_
      refine lv_dup hx hb dX4_once_105 rfl ?_
      refine va_get (D := D) (ci := 4) (v := .int (sd x)) (C := RX4) (T := TX4) (N := 18) hx hb hts hiX4 hown hK hP 0 rfl rfl 5 (by decide) (hts (.fieldLink RX4 95 "StateKeeperModel" "done" "I") (List.mem_of_getElem? (i := 9) rfl)) (fun _ h9 => h9) rfl dX4_once_106 ?_
      refine lv_iconst (v := nI 1) hx hb dX4_once_109 (by decide) ?_
      refine lv_iadd hx hb dX4_once_110 ?_
      refine lz_i (y := sd x + 1) (by show sd x + nI 1 = _; rfl) ?_
      refine va_put (D := D) (ci := 4) (v := .int (sd x + 1)) (ty := .int) (C := RX4) (T := TX4) (N := 18) hx hb hts hiX4 tyX4 tyX4_ok nmX4 hown hK hP hD hS 0 rfl rfl 5 (by decide) (hts (.fieldLink RX4 95 "StateKeeperModel" "done" "I") (List.mem_of_getElem? (i := 9) rfl)) (fun _ h9 => h9) rfl (by decide +kernel) rfl rfl (Nat.le_of_ble_eq_true rfl) dX4_once_111 (fun H locs hP hD hS => ?_)
      have hP : va_P D vwCl ([((u 0), .inr (4, [.int th, .int (nI n), .ref (u 1), .int (nI ((sT x) + 1)), .int (nI ev), .int (sd x + 1), .int (nI R.length), .ref (u 2), .ref (u 3), .ref (u 4), .int (nI ((sL x).length)), .ref (u 5), .ref (u 6), .ref (u 7), .ref (u 8), .int (nI ((sS x).length)), .ref (u 9), .ref (u 10)])), ((u 1), .inl (cF, 256, .inr (.inr (.inl (stc R x))))), ((u 2), .inl (cI, 64, .inl r1)), ((u 3), .inl (cI, 64, .inl r2)), ((u 4), .inl (cF, 64, .inr (.inr (.inl r3)))), ((u 5), .inl (cI, 512, .inl f1)), ((u 6), .inl (cI, 512, .inl f2)), ((u 7), .inl (cI, 512, .inl f3)), ((u 8), .inl (cF, 512, .inr (.inr (.inl f4)))), ((u 9), .inl (cI, 16, .inl k1)), ((u 10), .inl (cF, 4096, .inr (.inr (.inl kc))))]) H := hP
      have hD : va_D A ([((u 0), .inr (4, [.int th, .int (nI n), .ref (u 1), .int (nI ((sT x) + 1)), .int (nI ev), .int (sd x + 1), .int (nI R.length), .ref (u 2), .ref (u 3), .ref (u 4), .int (nI ((sL x).length)), .ref (u 5), .ref (u 6), .ref (u 7), .ref (u 8), .int (nI ((sS x).length)), .ref (u 9), .ref (u 10)])), ((u 1), .inl (cF, 256, .inr (.inr (.inl (stc R x))))), ((u 2), .inl (cI, 64, .inl r1)), ((u 3), .inl (cI, 64, .inl r2)), ((u 4), .inl (cF, 64, .inr (.inr (.inl r3)))), ((u 5), .inl (cI, 512, .inl f1)), ((u 6), .inl (cI, 512, .inl f2)), ((u 7), .inl (cI, 512, .inl f3)), ((u 8), .inl (cF, 512, .inr (.inr (.inl f4)))), ((u 9), .inl (cI, 16, .inl k1)), ((u 10), .inl (cF, 4096, .inr (.inr (.inl kc))))]) := hD
      refine lv_aload_n hx hb dX4_once_114 rfl (lv_at hl 1 rfl) ?_
      refine va_get (D := D) (ci := 4) (v := .int (nI ev)) (C := RX4) (T := TX4) (N := 18) hx hb hts hiX4 hown hK hP 0 rfl rfl 4 (by decide) (hts (.fieldLink RX4 72 "StateKeeperModel" "every" "I") (List.mem_of_getElem? (i := 10) rfl)) (fun _ h9 => h9) rfl dX4_once_115 ?_
      refine lv_if_le (tgt := 137) hx hb dX4_once_118 (by decide) (fun c_2 => ?_) (fun c_2 => ?_)
      · have e0 : ¬ (0 < ev ∧ (sT x + 1) % ev = 0) := fun q => absurd ((iz_le_r (a := 0) (by omega)).mp (by exact c_2)) (by rw [nI_toInt (by omega)]; omega)
        have e1 : stp R ev x = (stc R x, sT x + 1, sd x + 1, sL x, sS x) := if_neg e0
        exact W.vret hx hb hr (fun t9 ht9 _ => ⟨⟨[((u 0), .inr (4, [.int th, .int (nI n), .ref (u 1), .int (nI ((sT x) + 1)), .int (nI ev), .int (sd x + 1), .int (nI R.length), .ref (u 2), .ref (u 3), .ref (u 4), .int (nI ((sL x).length)), .ref (u 5), .ref (u 6), .ref (u 7), .ref (u 8), .int (nI ((sS x).length)), .ref (u 9), .ref (u 10)])), ((u 1), .inl (cF, 256, .inr (.inr (.inl (stc R x))))), ((u 2), .inl (cI, 64, .inl r1)), ((u 3), .inl (cI, 64, .inl r2)), ((u 4), .inl (cF, 64, .inr (.inr (.inl r3)))), ((u 5), .inl (cI, 512, .inl f1)), ((u 6), .inl (cI, 512, .inl f2)), ((u 7), .inl (cI, 512, .inl f3)), ((u 8), .inl (cF, 512, .inr (.inr (.inl f4)))), ((u 9), .inl (cI, 16, .inl k1)), ((u 10), .inl (cF, 4096, .inr (.inr (.inl kc))))], rfl, by rw [e1]; exact ⟨_, _, _, _, _, _, _, _, _, hdr, hrec, hks, rfl⟩, by show va_P D vwCl _ t9.heap; rw [ht9]; exact hP⟩, hS.F ht9⟩) hS.2.2 dX4_once_137
      · have hev : 0 < ev := Nat.pos_of_ne_zero (fun q => c_2 (by rw [q]; decide))
        refine lv_aload_n hx hb dX4_once_121 rfl (lv_at hl 1 rfl) ?_
        refine va_get (D := D) (ci := 4) (v := .int (nI ((sT x) + 1))) (C := RX4) (T := TX4) (N := 18) hx hb hts hiX4 hown hK hP 0 rfl rfl 3 (by decide) (hts (.fieldLink RX4 62 "StateKeeperModel" "now" "I") (List.mem_of_getElem? (i := 3) rfl)) (fun _ h9 => h9) rfl dX4_once_122 ?_
        refine lv_aload_n hx hb dX4_once_125 rfl (lv_at hl 1 rfl) ?_
        refine va_get (D := D) (ci := 4) (v := .int (nI ev)) (C := RX4) (T := TX4) (N := 18) hx hb hts hiX4 hown hK hP 0 rfl rfl 4 (by decide) (hts (.fieldLink RX4 72 "StateKeeperModel" "every" "I") (List.mem_of_getElem? (i := 10) rfl)) (fun _ h9 => h9) rfl dX4_once_126 ?_
        refine lv_irem hx hb dX4_once_129 (fun q => absurd ((iz_ne0 (by omega)).mp q) (by omega)) ?_
        refine lz_i (pk_rem (by omega) (by omega) (by omega)) ?_
        refine lv_if_ne (tgt := 137) hx hb dX4_once_130 (by decide) (fun c_3 => ?_) (fun c_3 => ?_)
        · have e0 : ¬ (0 < ev ∧ (sT x + 1) % ev = 0) := fun q => c_3 ((iz_ne0 (by omega)).mpr q.2)
          have e1 : stp R ev x = (stc R x, sT x + 1, sd x + 1, sL x, sS x) := if_neg e0
          exact W.vret hx hb hr (fun t9 ht9 _ => ⟨⟨[((u 0), .inr (4, [.int th, .int (nI n), .ref (u 1), .int (nI ((sT x) + 1)), .int (nI ev), .int (sd x + 1), .int (nI R.length), .ref (u 2), .ref (u 3), .ref (u 4), .int (nI ((sL x).length)), .ref (u 5), .ref (u 6), .ref (u 7), .ref (u 8), .int (nI ((sS x).length)), .ref (u 9), .ref (u 10)])), ((u 1), .inl (cF, 256, .inr (.inr (.inl (stc R x))))), ((u 2), .inl (cI, 64, .inl r1)), ((u 3), .inl (cI, 64, .inl r2)), ((u 4), .inl (cF, 64, .inr (.inr (.inl r3)))), ((u 5), .inl (cI, 512, .inl f1)), ((u 6), .inl (cI, 512, .inl f2)), ((u 7), .inl (cI, 512, .inl f3)), ((u 8), .inl (cF, 512, .inr (.inr (.inl f4)))), ((u 9), .inl (cI, 16, .inl k1)), ((u 10), .inl (cF, 4096, .inr (.inr (.inl kc))))], rfl, by rw [e1]; exact ⟨_, _, _, _, _, _, _, _, _, hdr, hrec, hks, rfl⟩, by show va_P D vwCl _ t9.heap; rw [ht9]; exact hP⟩, hS.F ht9⟩) hS.2.2 dX4_once_137
        · have e0 : 0 < ev ∧ (sT x + 1) % ev = 0 := ⟨hev, (iz_ne0 (Nat.lt_trans (Nat.mod_lt _ hev) (by omega))).mp c_3⟩
          have e1 : stp R ev x = kp (stc R x, sT x + 1, sd x + 1, sL x, sS x) := if_pos e0
          refine lv_aload_n hx hb dX4_once_133 rfl (lv_at hl 1 rfl) ?_
          have hw9 : WM cI cF u n ev th R (stc R x, sT x + 1, sd x + 1, sL x, sS x) ([((u 0), .inr (4, [.int th, .int (nI n), .ref (u 1), .int (nI ((sT x) + 1)), .int (nI ev), .int (sd x + 1), .int (nI R.length), .ref (u 2), .ref (u 3), .ref (u 4), .int (nI ((sL x).length)), .ref (u 5), .ref (u 6), .ref (u 7), .ref (u 8), .int (nI ((sS x).length)), .ref (u 9), .ref (u 10)])), ((u 1), .inl (cF, 256, .inr (.inr (.inl (stc R x))))), ((u 2), .inl (cI, 64, .inl r1)), ((u 3), .inl (cI, 64, .inl r2)), ((u 4), .inl (cF, 64, .inr (.inr (.inl r3)))), ((u 5), .inl (cI, 512, .inl f1)), ((u 6), .inl (cI, 512, .inl f2)), ((u 7), .inl (cI, 512, .inl f3)), ((u 8), .inl (cF, 512, .inr (.inr (.inl f4)))), ((u 9), .inl (cI, 16, .inl k1)), ((u 10), .inl (cF, 4096, .inr (.inr (.inl kc))))]) := ⟨_, _, _, _, _, _, _, _, _, hdr, hrec, hks, rfl⟩
          refine lz_cMv0 (lz_runV (C := RX4) (As := []) (rest := []) hC hS hl (c_X4_keepNow (x := (stc R x, sT x + 1, sd x + 1, sL x, sS x)) hS9 hL9 hn9 hT1 hw9) (cwV 0 hts gX4_once_X4_keepNow rfl rfl rfl (by decide +kernel) ⟨Nat.le_of_ble_eq_true rfl, Nat.le_of_ble_eq_true rfl⟩) hP hD (va_recv hK hP (ci := 4) (q0 := 0) rfl rfl) rfl rfl (Nat.le_of_ble_eq_true rfl) dX4_once_134 ⟨Nat.le_of_ble_eq_true rfl, Nat.le_of_ble_eq_true rfl⟩) hD hS hA (fun w1 h => h.ad2 hw9) (fun w1 H locs hpo hP hD hS => ?_)
          have hw8 := hpo
          exact W.vret hx hb hr (fun t9 ht9 _ => ⟨⟨w1, rfl, by rw [e1]; exact hw8, by show va_P D vwCl _ t9.heap; rw [ht9]; exact hP⟩, hS.F ht9⟩) hS.2.2 dX4_once_137
    | succ r ih =>
      intro i h1 r1 r2 r3 f1 f2 f3 f4 k1 kc hdr hrec hks H locs ls hP hD hS hl
      have hl : lv_has ls 2 [(1, .int (nI i)), (0, .ref (u 0))] := hl
      have hP : va_P D vwCl ([((u 0), .inr (4, [.int th, .int (nI n), .ref (u 1), .int (nI (sT x)), .int (nI ev), .int (sd x), .int (nI R.length), .ref (u 2), .ref (u 3), .ref (u 4), .int (nI ((sL x).length)), .ref (u 5), .ref (u 6), .ref (u 7), .ref (u 8), .int (nI ((sS x).length)), .ref (u 9), .ref (u 10)])), ((u 1), .inl (cF, 256, .inr (.inr (.inl ((seg R 0 i).foldl drf ((fl (sL x) (sT x : Int)).foldl actC (sc x))))))), ((u 2), .inl (cI, 64, .inl r1)), ((u 3), .inl (cI, 64, .inl r2)), ((u 4), .inl (cF, 64, .inr (.inr (.inl r3)))), ((u 5), .inl (cI, 512, .inl f1)), ((u 6), .inl (cI, 512, .inl f2)), ((u 7), .inl (cI, 512, .inl f3)), ((u 8), .inl (cF, 512, .inr (.inr (.inl f4)))), ((u 9), .inl (cI, 16, .inl k1)), ((u 10), .inl (cF, 4096, .inr (.inr (.inl kc))))]) H := hP
      have hD : va_D A ([((u 0), .inr (4, [.int th, .int (nI n), .ref (u 1), .int (nI (sT x)), .int (nI ev), .int (sd x), .int (nI R.length), .ref (u 2), .ref (u 3), .ref (u 4), .int (nI ((sL x).length)), .ref (u 5), .ref (u 6), .ref (u 7), .ref (u 8), .int (nI ((sS x).length)), .ref (u 9), .ref (u 10)])), ((u 1), .inl (cF, 256, .inr (.inr (.inl ((seg R 0 i).foldl drf ((fl (sL x) (sT x : Int)).foldl actC (sc x))))))), ((u 2), .inl (cI, 64, .inl r1)), ((u 3), .inl (cI, 64, .inl r2)), ((u 4), .inl (cF, 64, .inr (.inr (.inl r3)))), ((u 5), .inl (cI, 512, .inl f1)), ((u 6), .inl (cI, 512, .inl f2)), ((u 7), .inl (cI, 512, .inl f3)), ((u 8), .inl (cF, 512, .inr (.inr (.inl f4)))), ((u 9), .inl (cI, 16, .inl k1)), ((u 10), .inl (cF, 4096, .inr (.inr (.inl kc))))]) := hD
      obtain ⟨e9, he⟩ : ∃ e9, R[i]? = some e9 := ⟨_, List.getElem?_eq_getElem (by omega)⟩
      have hok9 := hdr i e9 he
      have hin9 := hR9.2 e9 (List.mem_of_getElem? he)
      have hsg := seg_succ (Nat.zero_le i) he
      have hcf2 : cfin ((seg R 0 i).foldl drf ((fl (sL x) (sT x : Int)).foldl actC (sc x))) := drfs_fin (fun x hx => (hR9.2 x (seg_mem hx)).2.2) hcf1
      refine lv_iload_n hx hb dX4_once_36 rfl (lv_at hl 0 rfl) ?_
      refine lv_aload_n hx hb dX4_once_37 rfl (lv_at hl 1 rfl) ?_
      refine va_get (D := D) (ci := 4) (v := .int (nI R.length)) (C := RX4) (T := TX4) (N := 18) hx hb hts hiX4 hown hK hP 0 rfl rfl 6 (by decide) (hts (.fieldLink RX4 59 "StateKeeperModel" "drifts" "I") (List.mem_of_getElem? (i := 4) rfl)) (fun _ h9 => h9) rfl dX4_once_38 ?_
      refine lv_icmp_ge (tgt := 94) hx hb dX4_once_41 (by decide) (fun c1 => absurd c1 (nI_ge (by omega) (by omega))) (fun c1 => ?_)
      refine lv_aload_n hx hb dX4_once_44 rfl (lv_at hl 1 rfl) ?_
      refine va_get (D := D) (ci := 4) (v := .ref (u 1)) (C := RX4) (T := TX4) (N := 18) hx hb hts hiX4 hown hK hP 0 rfl rfl 2 (by decide) (hts (.fieldLink RX4 7 "StateKeeperModel" "cells" "[F") (List.mem_of_getElem? (i := 5) rfl)) (fun _ h9 => h9) rfl dX4_once_45 ?_
      refine lv_aload_n hx hb dX4_once_48 rfl (lv_at hl 1 rfl) ?_
      refine va_get (D := D) (ci := 4) (v := .ref (u 3)) (C := RX4) (T := TX4) (N := 18) hx hb hts hiX4 hown hK hP 0 rfl rfl 8 (by decide) (hts (.fieldLink RX4 17 "StateKeeperModel" "to" "[I") (List.mem_of_getElem? (i := 6) rfl)) (fun _ h9 => h9) rfl dX4_once_49 ?_
      refine lv_iload_n hx hb dX4_once_52 rfl (lv_at hl 0 rfl) ?_
      refine lz_iald hx hb hK hP 3 1 rfl rfl (by omega) (by omega) dX4_once_53 ?_
      refine lz_i (y := nI e9.2.1) hok9.2.1 ?_
      refine lv_aload_n hx hb dX4_once_54 rfl (lv_at hl 1 rfl) ?_
      refine va_get (D := D) (ci := 4) (v := .ref (u 1)) (C := RX4) (T := TX4) (N := 18) hx hb hts hiX4 hown hK hP 0 rfl rfl 2 (by decide) (hts (.fieldLink RX4 7 "StateKeeperModel" "cells" "[F") (List.mem_of_getElem? (i := 5) rfl)) (fun _ h9 => h9) rfl dX4_once_55 ?_
      refine lv_aload_n hx hb dX4_once_58 rfl (lv_at hl 1 rfl) ?_
      refine va_get (D := D) (ci := 4) (v := .ref (u 3)) (C := RX4) (T := TX4) (N := 18) hx hb hts hiX4 hown hK hP 0 rfl rfl 8 (by decide) (hts (.fieldLink RX4 17 "StateKeeperModel" "to" "[I") (List.mem_of_getElem? (i := 6) rfl)) (fun _ h9 => h9) rfl dX4_once_59 ?_
      refine lv_iload_n hx hb dX4_once_62 rfl (lv_at hl 0 rfl) ?_
      refine lz_iald hx hb hK hP 3 1 rfl rfl (by omega) (by omega) dX4_once_63 ?_
      refine lz_i (y := nI e9.2.1) hok9.2.1 ?_
      refine lz_fald hx hb hK hP 1 0 rfl rfl (by omega) (by omega) dX4_once_64 ?_
      refine lv_aload_n hx hb dX4_once_65 rfl (lv_at hl 1 rfl) ?_
      refine va_get (D := D) (ci := 4) (v := .ref (u 1)) (C := RX4) (T := TX4) (N := 18) hx hb hts hiX4 hown hK hP 0 rfl rfl 2 (by decide) (hts (.fieldLink RX4 7 "StateKeeperModel" "cells" "[F") (List.mem_of_getElem? (i := 5) rfl)) (fun _ h9 => h9) rfl dX4_once_66 ?_
      refine lv_aload_n hx hb dX4_once_69 rfl (lv_at hl 1 rfl) ?_
      refine va_get (D := D) (ci := 4) (v := .ref (u 2)) (C := RX4) (T := TX4) (N := 18) hx hb hts hiX4 hown hK hP 0 rfl rfl 7 (by decide) (hts (.fieldLink RX4 13 "StateKeeperModel" "from" "[I") (List.mem_of_getElem? (i := 7) rfl)) (fun _ h9 => h9) rfl dX4_once_70 ?_
      refine lv_iload_n hx hb dX4_once_73 rfl (lv_at hl 0 rfl) ?_
      refine lz_iald hx hb hK hP 2 1 rfl rfl (by omega) (by omega) dX4_once_74 ?_
      refine lz_i (y := nI e9.1) hok9.1 ?_
      refine lz_fald hx hb hK hP 1 0 rfl rfl (by omega) (by omega) dX4_once_75 ?_
      refine lv_aload_n hx hb dX4_once_76 rfl (lv_at hl 1 rfl) ?_
      refine va_get (D := D) (ci := 4) (v := .ref (u 4)) (C := RX4) (T := TX4) (N := 18) hx hb hts hiX4 hown hK hP 0 rfl rfl 9 (by decide) (hts (.fieldLink RX4 20 "StateKeeperModel" "factors" "[F") (List.mem_of_getElem? (i := 8) rfl)) (fun _ h9 => h9) rfl dX4_once_77 ?_
      refine lv_iload_n hx hb dX4_once_80 rfl (lv_at hl 0 rfl) ?_
      refine lz_fald hx hb hK hP 4 0 rfl rfl (by omega) (by omega) dX4_once_81 ?_
      refine lz_f (y := e9.2.2) hok9.2.2 ?_
      refine lv_fmul hx hb dX4_once_82 (fl_n32 (fl_mul (hcf2 _) hin9.2.2)) ?_
      refine lv_fadd hx hb dX4_once_83 (fl_n32 (fl_add' (hcf2 _) (fl_mul (hcf2 _) hin9.2.2))) ?_
      refine vp_callSf (lz_runS (As := [.float (FP.fadd (((seg R 0 i).foldl drf ((fl (sL x) (sT x : Int)).foldl actC (sc x))) e9.2.1) (FP.fmul (((seg R 0 i).foldl drf ((fl (sL x) (sT x : Int)).foldl actC (sc x))) e9.1) (e9.2.2)))]) (rest := [.int (nI e9.2.1), .ref (u 1)]) hC hS hl (c_X4_held (w := [((u 0), .inr (4, [.int th, .int (nI n), .ref (u 1), .int (nI (sT x)), .int (nI ev), .int (sd x), .int (nI R.length), .ref (u 2), .ref (u 3), .ref (u 4), .int (nI ((sL x).length)), .ref (u 5), .ref (u 6), .ref (u 7), .ref (u 8), .int (nI ((sS x).length)), .ref (u 9), .ref (u 10)])), ((u 1), .inl (cF, 256, .inr (.inr (.inl ((seg R 0 i).foldl drf ((fl (sL x) (sT x : Int)).foldl actC (sc x))))))), ((u 2), .inl (cI, 64, .inl r1)), ((u 3), .inl (cI, 64, .inl r2)), ((u 4), .inl (cF, 64, .inr (.inr (.inl r3)))), ((u 5), .inl (cI, 512, .inl f1)), ((u 6), .inl (cI, 512, .inl f2)), ((u 7), .inl (cI, 512, .inl f3)), ((u 8), .inl (cF, 512, .inr (.inr (.inl f4)))), ((u 9), .inl (cI, 16, .inl k1)), ((u 10), .inl (cF, 4096, .inr (.inr (.inl kc))))]) (fl_add' (hcf2 _) (fl_mul (hcf2 _) hin9.2.2))) (va_cwS 1 hts gX4_once_X4_held rfl rfl rfl (by decide +kernel) ⟨Nat.le_of_ble_eq_true rfl, Nat.le_of_ble_eq_true rfl⟩) hP hD rfl rfl (Nat.le_of_ble_eq_true rfl) dX4_once_84 ⟨Nat.le_of_ble_eq_true rfl, Nat.le_of_ble_eq_true rfl⟩).run (fun r_4 er_4 => ?_)
      subst er_4
      refine lz_fast hx hb hK hP hD hS 1 0 rfl rfl (by omega) (by omega) dX4_once_87 (fun H locs hP hD hS => ?_)
      have hP : va_P D vwCl ([((u 0), .inr (4, [.int th, .int (nI n), .ref (u 1), .int (nI (sT x)), .int (nI ev), .int (sd x), .int (nI R.length), .ref (u 2), .ref (u 3), .ref (u 4), .int (nI ((sL x).length)), .ref (u 5), .ref (u 6), .ref (u 7), .ref (u 8), .int (nI ((sS x).length)), .ref (u 9), .ref (u 10)])), ((u 1), .inl (cF, 256, .inr (.inr (.inl (vf_upd ((seg R 0 i).foldl drf ((fl (sL x) (sT x : Int)).foldl actC (sc x))) e9.2.1 (heldF (FP.fadd (((seg R 0 i).foldl drf ((fl (sL x) (sT x : Int)).foldl actC (sc x))) e9.2.1) (FP.fmul (((seg R 0 i).foldl drf ((fl (sL x) (sT x : Int)).foldl actC (sc x))) e9.1) e9.2.2)))))))), ((u 2), .inl (cI, 64, .inl r1)), ((u 3), .inl (cI, 64, .inl r2)), ((u 4), .inl (cF, 64, .inr (.inr (.inl r3)))), ((u 5), .inl (cI, 512, .inl f1)), ((u 6), .inl (cI, 512, .inl f2)), ((u 7), .inl (cI, 512, .inl f3)), ((u 8), .inl (cF, 512, .inr (.inr (.inl f4)))), ((u 9), .inl (cI, 16, .inl k1)), ((u 10), .inl (cF, 4096, .inr (.inr (.inl kc))))]) H := hP
      have hD : va_D A ([((u 0), .inr (4, [.int th, .int (nI n), .ref (u 1), .int (nI (sT x)), .int (nI ev), .int (sd x), .int (nI R.length), .ref (u 2), .ref (u 3), .ref (u 4), .int (nI ((sL x).length)), .ref (u 5), .ref (u 6), .ref (u 7), .ref (u 8), .int (nI ((sS x).length)), .ref (u 9), .ref (u 10)])), ((u 1), .inl (cF, 256, .inr (.inr (.inl (vf_upd ((seg R 0 i).foldl drf ((fl (sL x) (sT x : Int)).foldl actC (sc x))) e9.2.1 (heldF (FP.fadd (((seg R 0 i).foldl drf ((fl (sL x) (sT x : Int)).foldl actC (sc x))) e9.2.1) (FP.fmul (((seg R 0 i).foldl drf ((fl (sL x) (sT x : Int)).foldl actC (sc x))) e9.1) e9.2.2)))))))), ((u 2), .inl (cI, 64, .inl r1)), ((u 3), .inl (cI, 64, .inl r2)), ((u 4), .inl (cF, 64, .inr (.inr (.inl r3)))), ((u 5), .inl (cI, 512, .inl f1)), ((u 6), .inl (cI, 512, .inl f2)), ((u 7), .inl (cI, 512, .inl f3)), ((u 8), .inl (cF, 512, .inr (.inr (.inl f4)))), ((u 9), .inl (cI, 16, .inl k1)), ((u 10), .inl (cF, 4096, .inr (.inr (.inl kc))))]) := hD
      refine lv_iinc (v := nI (i + 1)) (lv' := [(1, .int (nI (i + 1))), (0, .ref (u 0))]) hx hb dX4_once_88 hl (k := 0) rfl (nI_add _ 1) (by decide) rfl (fun ls hl => ?_)
      refine lv_goto (tgt := 36) hx hb dX4_once_91 (by decide) ?_
      refine ih (i + 1) (by omega) r1 r2 r3 f1 f2 f3 f4 k1 kc hdr hrec hks H locs ls ?_ ?_ hS (lv_sub hl [0, 1] rfl)
      · rw [hsg, List.foldl_append]; exact hP
      · rw [hsg, List.foldl_append]; exact hD
  have loop : ∀ (r i : Nat), r + i = (sL x).length → ∀ (w : va_W), WM cI cF u n ev th R ((fl ((sL x).take i) (sT x : Int)).foldl actC (sc x), sT x, sd x, sL x, sS x) w → ∀ (H : Heap) (locs : List Loc) (ls : Array Slot), va_P D vwCl w H → va_D A w → va_S A s.heap H locs → lv_has ls 2 [(1, .int (nI i)), (0, .ref (u 0))] → W p l e (rmk 2 0 0) s m [.ref (u 0)].toArray below meth c H locs 0 0 (MQ below (va_Qv (fun (w1 : va_W) => WM cI cF u n ev th R (stp R ev x) w1) (fun w1 t => va_P D vwCl w1 t.heap) A) [.ref (u 0)].toArray s 0 0 A) (F0 m 2 ls []) := by
    intro r
    induction r with
    | zero =>
      intro i h1 w hw H locs ls hP hD hS hl
      obtain ⟨r1, r2, r3, f1, f2, f3, f4, k1, kc, hdr, hrec, hks, rfl⟩ := id hw
      have hl : lv_has ls 2 [(1, .int (nI i)), (0, .ref (u 0))] := hl
      have hP : va_P D vwCl ([((u 0), .inr (4, [.int th, .int (nI n), .ref (u 1), .int (nI (sT x)), .int (nI ev), .int (sd x), .int (nI R.length), .ref (u 2), .ref (u 3), .ref (u 4), .int (nI ((sL x).length)), .ref (u 5), .ref (u 6), .ref (u 7), .ref (u 8), .int (nI ((sS x).length)), .ref (u 9), .ref (u 10)])), ((u 1), .inl (cF, 256, .inr (.inr (.inl ((fl ((sL x).take i) (sT x : Int)).foldl actC (sc x)))))), ((u 2), .inl (cI, 64, .inl r1)), ((u 3), .inl (cI, 64, .inl r2)), ((u 4), .inl (cF, 64, .inr (.inr (.inl r3)))), ((u 5), .inl (cI, 512, .inl f1)), ((u 6), .inl (cI, 512, .inl f2)), ((u 7), .inl (cI, 512, .inl f3)), ((u 8), .inl (cF, 512, .inr (.inr (.inl f4)))), ((u 9), .inl (cI, 16, .inl k1)), ((u 10), .inl (cF, 4096, .inr (.inr (.inl kc))))]) H := hP
      have hD : va_D A ([((u 0), .inr (4, [.int th, .int (nI n), .ref (u 1), .int (nI (sT x)), .int (nI ev), .int (sd x), .int (nI R.length), .ref (u 2), .ref (u 3), .ref (u 4), .int (nI ((sL x).length)), .ref (u 5), .ref (u 6), .ref (u 7), .ref (u 8), .int (nI ((sS x).length)), .ref (u 9), .ref (u 10)])), ((u 1), .inl (cF, 256, .inr (.inr (.inl ((fl ((sL x).take i) (sT x : Int)).foldl actC (sc x)))))), ((u 2), .inl (cI, 64, .inl r1)), ((u 3), .inl (cI, 64, .inl r2)), ((u 4), .inl (cF, 64, .inr (.inr (.inl r3)))), ((u 5), .inl (cI, 512, .inl f1)), ((u 6), .inl (cI, 512, .inl f2)), ((u 7), .inl (cI, 512, .inl f3)), ((u 8), .inl (cF, 512, .inr (.inr (.inl f4)))), ((u 9), .inl (cI, 16, .inl k1)), ((u 10), .inl (cF, 4096, .inr (.inr (.inl kc))))]) := hD
      refine lv_iload_n hx hb dX4_once_2 rfl (lv_at hl 0 rfl) ?_
      refine lv_aload_n hx hb dX4_once_3 rfl (lv_at hl 1 rfl) ?_
      refine va_get (D := D) (ci := 4) (v := .int (nI ((sL x).length))) (C := RX4) (T := TX4) (N := 18) hx hb hts hiX4 hown hK hP 0 rfl rfl 10 (by decide) (hts (.fieldLink RX4 65 "StateKeeperModel" "inputs" "I") (List.mem_of_getElem? (i := 1) rfl)) (fun _ h9 => h9) rfl dX4_once_4 ?_
      refine lv_icmp_ge (tgt := 34) hx hb dX4_once_7 (by decide) (fun c_5 => ?_) (fun c_5 => absurd (nI_le (by omega) (by omega)) c_5)
      have hi2 : i = (sL x).length := by omega
      subst hi2
      rw [List.take_length] at hP hD
      refine lv_iconst (v := nI 0) hx hb dX4_once_34 (by decide) ?_
      refine lv_istore_n (lv' := [(1, .int (nI 0)), (0, .ref (u 0))]) hx hb dX4_once_35 rfl hl (by decide) rfl (fun ls hl => ?_)
      exact drifts R.length 0 (by omega) r1 r2 r3 f1 f2 f3 f4 k1 kc hdr hrec hks H locs ls hP hD hS hl
    | succ r ih =>
      intro i h1 w hw H locs ls hP hD hS hl
      obtain ⟨r1, r2, r3, f1, f2, f3, f4, k1, kc, hdr, hrec, hks, rfl⟩ := id hw
      have hl : lv_has ls 2 [(1, .int (nI i)), (0, .ref (u 0))] := hl
      have hP : va_P D vwCl ([((u 0), .inr (4, [.int th, .int (nI n), .ref (u 1), .int (nI (sT x)), .int (nI ev), .int (sd x), .int (nI R.length), .ref (u 2), .ref (u 3), .ref (u 4), .int (nI ((sL x).length)), .ref (u 5), .ref (u 6), .ref (u 7), .ref (u 8), .int (nI ((sS x).length)), .ref (u 9), .ref (u 10)])), ((u 1), .inl (cF, 256, .inr (.inr (.inl ((fl ((sL x).take i) (sT x : Int)).foldl actC (sc x)))))), ((u 2), .inl (cI, 64, .inl r1)), ((u 3), .inl (cI, 64, .inl r2)), ((u 4), .inl (cF, 64, .inr (.inr (.inl r3)))), ((u 5), .inl (cI, 512, .inl f1)), ((u 6), .inl (cI, 512, .inl f2)), ((u 7), .inl (cI, 512, .inl f3)), ((u 8), .inl (cF, 512, .inr (.inr (.inl f4)))), ((u 9), .inl (cI, 16, .inl k1)), ((u 10), .inl (cF, 4096, .inr (.inr (.inl kc))))]) H := hP
      have hD : va_D A ([((u 0), .inr (4, [.int th, .int (nI n), .ref (u 1), .int (nI (sT x)), .int (nI ev), .int (sd x), .int (nI R.length), .ref (u 2), .ref (u 3), .ref (u 4), .int (nI ((sL x).length)), .ref (u 5), .ref (u 6), .ref (u 7), .ref (u 8), .int (nI ((sS x).length)), .ref (u 9), .ref (u 10)])), ((u 1), .inl (cF, 256, .inr (.inr (.inl ((fl ((sL x).take i) (sT x : Int)).foldl actC (sc x)))))), ((u 2), .inl (cI, 64, .inl r1)), ((u 3), .inl (cI, 64, .inl r2)), ((u 4), .inl (cF, 64, .inr (.inr (.inl r3)))), ((u 5), .inl (cI, 512, .inl f1)), ((u 6), .inl (cI, 512, .inl f2)), ((u 7), .inl (cI, 512, .inl f3)), ((u 8), .inl (cF, 512, .inr (.inr (.inl f4)))), ((u 9), .inl (cI, 16, .inl k1)), ((u 10), .inl (cF, 4096, .inr (.inr (.inl kc))))]) := hD
      obtain ⟨e9, he⟩ : ∃ e9, (sL x)[i]? = some e9 := ⟨_, List.getElem?_eq_getElem (by omega)⟩
      have hin9 := hL9.2 e9 (List.mem_of_getElem? he)
      have hcf2 : cfin ((fl ((sL x).take i) (sT x : Int)).foldl actC (sc x)) := acts_fin (fun e he => (hL9.2 e (List.mem_of_mem_take (List.mem_filter.mp he).1)).2.2.2) hcf
      have hfs : fl ((sL x).take (i + 1)) (sT x : Int) = fl ((sL x).take i) (sT x : Int) ++ if (e9.1 : Int) = (sT x : Int) then [e9] else [] := by rw [take_s he, fl_app, fl_1]
      refine lv_iload_n hx hb dX4_once_2 rfl (lv_at hl 0 rfl) ?_
      refine lv_aload_n hx hb dX4_once_3 rfl (lv_at hl 1 rfl) ?_
      refine va_get (D := D) (ci := 4) (v := .int (nI ((sL x).length))) (C := RX4) (T := TX4) (N := 18) hx hb hts hiX4 hown hK hP 0 rfl rfl 10 (by decide) (hts (.fieldLink RX4 65 "StateKeeperModel" "inputs" "I") (List.mem_of_getElem? (i := 1) rfl)) (fun _ h9 => h9) rfl dX4_once_4 ?_
      refine lv_icmp_ge (tgt := 34) hx hb dX4_once_7 (by decide) (fun c1 => absurd c1 (nI_ge (by omega) (by omega))) (fun c1 => ?_)
      refine lv_aload_n hx hb dX4_once_10 rfl (lv_at hl 1 rfl) ?_
      refine va_get (D := D) (ci := 4) (v := .ref (u 5)) (C := RX4) (T := TX4) (N := 18) hx hb hts hiX4 hown hK hP 0 rfl rfl 11 (by decide) (hts (.fieldLink RX4 23 "StateKeeperModel" "steps" "[I") (List.mem_of_getElem? (i := 2) rfl)) (fun _ h9 => h9) rfl dX4_once_11 ?_
      refine lv_iload_n hx hb dX4_once_14 rfl (lv_at hl 0 rfl) ?_
      refine lz_iald hx hb hK hP 5 1 rfl rfl (by omega) (by omega) dX4_once_15 ?_
      refine lz_i (y := nI e9.1) (hrec i e9 he).1 ?_
      refine lv_aload_n hx hb dX4_once_16 rfl (lv_at hl 1 rfl) ?_
      refine va_get (D := D) (ci := 4) (v := .int (nI (sT x))) (C := RX4) (T := TX4) (N := 18) hx hb hts hiX4 hown hK hP 0 rfl rfl 3 (by decide) (hts (.fieldLink RX4 62 "StateKeeperModel" "now" "I") (List.mem_of_getElem? (i := 3) rfl)) (fun _ h9 => h9) rfl dX4_once_17 ?_
      refine lv_icmp_ne (tgt := 28) hx hb dX4_once_20 (by decide) (fun c_6 => ?_) (fun c_6 => ?_)
      · rw [if_neg (fun q => c_6 (congrArg nI (by omega))), List.append_nil] at hfs
        refine lv_iinc (v := nI (i + 1)) (lv' := [(1, .int (nI (i + 1))), (0, .ref (u 0))]) hx hb dX4_once_28 hl (k := 0) rfl (nI_add _ 1) (by decide) rfl (fun ls hl => ?_)
        refine lv_goto (tgt := 2) hx hb dX4_once_31 (by decide) ?_
        exact ih (i + 1) (by omega) _ (by rw [hfs]; exact hw) H locs ls hP hD hS (lv_sub hl [0, 1] rfl)
      · rw [if_pos (by have := (nI_eq (by omega) (by omega)).mp c_6; omega)] at hfs
        refine lv_aload_n hx hb dX4_once_23 rfl (lv_at hl 1 rfl) ?_
        refine lv_iload_n hx hb dX4_once_24 rfl (lv_at hl 0 rfl) ?_
        refine lz_cMv0 (lz_runV (C := RX4) (As := [.int (nI i)]) (rest := []) hC hS hl (c_X4_act (x := ((fl ((sL x).take i) (sT x : Int)).foldl actC (sc x), sT x, sd x, sL x, sS x)) he hL9 hn9 hcf2 hw) (cwV 1 hts gX4_once_X4_act rfl rfl rfl (by decide +kernel) ⟨Nat.le_of_ble_eq_true rfl, Nat.le_of_ble_eq_true rfl⟩) hP hD (va_recv hK hP (ci := 4) (q0 := 0) rfl rfl) rfl rfl (Nat.le_of_ble_eq_true rfl) dX4_once_25 ⟨Nat.le_of_ble_eq_true rfl, Nat.le_of_ble_eq_true rfl⟩) hD hS hA (fun w1 h => h.ad2 hw) (fun w1 H locs hpo hP hD hS => ?_)
        have hw8 := hpo
        refine lv_iinc (v := nI (i + 1)) (lv' := [(1, .int (nI (i + 1))), (0, .ref (u 0))]) hx hb dX4_once_28 hl (k := 0) rfl (nI_add _ 1) (by decide) rfl (fun ls hl => ?_)
        refine lv_goto (tgt := 2) hx hb dX4_once_31 (by decide) ?_
        exact ih (i + 1) (by omega) w1 (by rw [hfs, List.foldl_append]; exact hw8) H locs ls hP hD hS (lv_sub hl [0, 1] rfl)
  refine lv_iconst (v := nI 0) hx hb dX4_once_0 (by decide) ?_
  refine lv_istore_n (lv' := [(1, .int (nI 0)), (0, .ref (u 0))]) hx hb dX4_once_1 rfl hl (by decide) rfl (fun ls hl => ?_)
  exact loop (sL x).length 0 (by omega) w hw s.heap [] ls hP hD hS hl

end X4a
