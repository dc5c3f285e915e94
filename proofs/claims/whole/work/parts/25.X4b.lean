/-! StateKeeperModel: its public methods -/
theorem opt_or {α : Type} (o : Option α) : o = none ∨ ∃ j, o = some j := by
  cases o with
  | none => exact Or.inl rfl
  | some j => exact Or.inr ⟨j, rfl⟩
section X4b
variable {l : Launch} {D : va_G} {cI cF cQ : ClassId} {aT sz : Nat} {u : Nat → Nat} {n ev : Nat} {th : Int32} {R : List dI} {x : St} {w : va_W}
set_option maxRecDepth 100000 in
set_option maxHeartbeats 4000000 in
/-- drift(a, b, factor) -/
theorem c_X4_drift {a b : Int32} {f : UInt32} (hw : WM cI cF u n ev th R x w) (hx0 : Ok n ev R x) : Met l yX4_drift wsX4_drift (rmk 3 0 0) (pcW l D cI cF cQ aT [.ref (u 0), .int a, .int b, .float f] w sz) (va_Qi (fun (r : Int32) (w1 : va_W) => ∃ k, cdR (kn n a ∧ kn n b) (inF c4N c4P f) (R.length < 64 ∧ sT x = 0 ∧ (sL x).length = 0) k ∧ (k = 0 → r = (nI (R.length + 1)) ∧ WM cI cF u n ev (nI k) (R ++ [(tn a, tn b, f)]) x w1) ∧ (k ≠ 0 → WM cI cF u n ev (nI k) R x w1)) (fun w1 t => va_P D vwCl w1 t.heap) (va_A w sz)) 0 0 (va_A w sz) := by
  obtain ⟨r1, r2, r3, f1, f2, f3, f4, k1, kc, hdr, hrec, hks, rfl⟩ := id hw
  refine lz_ofM (Qf := fun A => va_Qi (fun (r : Int32) (w1 : va_W) => ∃ k, cdR (kn n a ∧ kn n b) (inF c4N c4P f) (R.length < 64 ∧ sT x = 0 ∧ (sL x).length = 0) k ∧ (k = 0 → r = (nI (R.length + 1)) ∧ WM cI cF u n ev (nI k) (R ++ [(tn a, tn b, f)]) x w1) ∧ (k ≠ 0 → WM cI cF u n ev (nI k) R x w1)) (fun w1 t => va_P D vwCl w1 t.heap) A) (cc := cX4_drift) (maxL := 4) (ret := (some .int)) (by decide) rfl (Nat.le_of_ble_eq_true rfl) ?_
  intro p e s m below meth c A hAe hsz hx hb hr hlk hin hC hP hD hS ls hl
  clear hAe
  have hts := hC.1.2.2.2.2
  have hown : s.vm.findClass RX4 = some m.cls := hC.1.2.2.2.1
  have hml := hC.1.2.2.1
  have hA := hC.2.1
  have hK := hC.2.2.2.1
  have hnm := hC.2.2.2.2.1
  have hnf := hC.2.2.2.2.2.1
  have hiX4 : ∀ w ∈ u_ws RX4 TX4 18, w ∈ wsX4_drift := fun _ h => List.mem_cons_of_mem _ (List.mem_append_right _ h)
  have hl : lv_has ls 4 [(0, .ref (u 0)), (1, .int a), (2, .int b), (3, .float f)] := hl
  have hn9 := hx0.1.2
  have hn1 := hx0.1.1
  have hev9 := hx0.2.1
  have hR9 : dIn n R := hx0.2.2.1
  have hcf : cfin (sc x) := hx0.2.2.2.1
  have hT9 : sT x < 2 ^ 29 := hx0.2.2.2.2.1
  have hL9 : rIn n (sL x) := hx0.2.2.2.2.2.1
  have hS9 : sGood (sS x) := hx0.2.2.2.2.2.2.1
  have hL8 := hL9.1
  have hS8 := hS9.2.1
  have hR8 := hR9.1
  have j3 : ∀ b1 b2 b3 : Int32, bz (kn n a ∧ kn n b) b1 → bz (inF c4N c4P f) b2 → bz (R.length < 64 ∧ sT x = 0 ∧ (sL x).length = 0) b3 → W p l e (rmk 3 0 0) s m [.ref (u 0), .int a, .int b, .float f].toArray below meth c s.heap [] 0 0 (MQ below (va_Qi (fun (r : Int32) (w1 : va_W) => ∃ k, cdR (kn n a ∧ kn n b) (inF c4N c4P f) (R.length < 64 ∧ sT x = 0 ∧ (sL x).length = 0) k ∧ (k = 0 → r = (nI (R.length + 1)) ∧ WM cI cF u n ev (nI k) (R ++ [(tn a, tn b, f)]) x w1) ∧ (k ≠ 0 → WM cI cF u n ev (nI k) R x w1)) (fun w1 t => va_P D vwCl w1 t.heap) A) [.ref (u 0), .int a, .int b, .float f].toArray s 0 0 A) (F0 m 69 ls [.int b3, .int b2, .int b1, .ref (u 0)]) := by
    intro b1 b2 b3 h1 h2 h3
    refine lz_cMi0 (lz_runV (C := RX4) (As := [.int b1, .int b2, .int b3]) (rest := []) hC hS hl (c_X4_goes h1 h2 h3 hw) (cwV 3 hts gX4_drift_X4_goes rfl rfl rfl (by decide +kernel) ⟨Nat.le_of_ble_eq_true rfl, Nat.le_of_ble_eq_true rfl⟩) hP hD (va_recv hK hP (ci := 4) (q0 := 0) rfl rfl) rfl rfl (Nat.le_of_ble_eq_true rfl) dX4_drift_69 ⟨Nat.le_of_ble_eq_true rfl, Nat.le_of_ble_eq_true rfl⟩) hD hS hA (fun r w1 h => by obtain ⟨k, -, -, h⟩ := h; exact h.ad2 hw) (fun r_1 w1 H locs hpo hP hD hS => ?_)
    obtain ⟨k9, hk9, hb9, hw9⟩ := hpo
    refine lv_if_ne (tgt := 77) hx hb dX4_drift_72 (by decide) (fun c_2 => ?_) (fun c_2 => ?_)
    · have hk0 : k9 = 0 := bz_1 hb9 c_2
      subst hk0
      have hpp := cdR_0 hk9 rfl
      obtain ⟨r1, r2, r3, f1, f2, f3, f4, k1, kc, hdr, hrec, hks, rfl⟩ := id hw9
      have hP : va_P D vwCl ([((u 0), .inr (4, [.int (nI 0), .int (nI n), .ref (u 1), .int (nI (sT x)), .int (nI ev), .int (sd x), .int (nI R.length), .ref (u 2), .ref (u 3), .ref (u 4), .int (nI ((sL x).length)), .ref (u 5), .ref (u 6), .ref (u 7), .ref (u 8), .int (nI ((sS x).length)), .ref (u 9), .ref (u 10)])), ((u 1), .inl (cF, 256, .inr (.inr (.inl (sc x))))), ((u 2), .inl (cI, 64, .inl r1)), ((u 3), .inl (cI, 64, .inl r2)), ((u 4), .inl (cF, 64, .inr (.inr (.inl r3)))), ((u 5), .inl (cI, 512, .inl f1)), ((u 6), .inl (cI, 512, .inl f2)), ((u 7), .inl (cI, 512, .inl f3)), ((u 8), .inl (cF, 512, .inr (.inr (.inl f4)))), ((u 9), .inl (cI, 16, .inl k1)), ((u 10), .inl (cF, 4096, .inr (.inr (.inl kc))))]) H := hP
      have hD : va_D A ([((u 0), .inr (4, [.int (nI 0), .int (nI n), .ref (u 1), .int (nI (sT x)), .int (nI ev), .int (sd x), .int (nI R.length), .ref (u 2), .ref (u 3), .ref (u 4), .int (nI ((sL x).length)), .ref (u 5), .ref (u 6), .ref (u 7), .ref (u 8), .int (nI ((sS x).length)), .ref (u 9), .ref (u 10)])), ((u 1), .inl (cF, 256, .inr (.inr (.inl (sc x))))), ((u 2), .inl (cI, 64, .inl r1)), ((u 3), .inl (cI, 64, .inl r2)), ((u 4), .inl (cF, 64, .inr (.inr (.inl r3)))), ((u 5), .inl (cI, 512, .inl f1)), ((u 6), .inl (cI, 512, .inl f2)), ((u 7), .inl (cI, 512, .inl f3)), ((u 8), .inl (cF, 512, .inr (.inr (.inl f4)))), ((u 9), .inl (cI, 16, .inl k1)), ((u 10), .inl (cF, 4096, .inr (.inr (.inl kc))))]) := hD
      obtain ⟨⟨ha9, hb8⟩, hf9, hlt, hT0, hL0⟩ := hpp
      obtain ⟨a0, ha8, rfl, ha⟩ := iz_nat ha9.1
      obtain ⟨b0, hb7, rfl, hb6⟩ := iz_nat hb8.1
      have hl : lv_has ls 4 [(0, .ref (u 0)), (1, .int (nI a0)), (2, .int (nI b0)), (3, .float f)] := hl
      refine lv_aload_n hx hb dX4_drift_77 rfl (lv_at hl 0 rfl) ?_
      refine va_get (D := D) (ci := 4) (v := .ref (u 2)) (C := RX4) (T := TX4) (N := 18) hx hb hts hiX4 hown hK hP 0 rfl rfl 7 (by decide) (hts (.fieldLink RX4 13 "StateKeeperModel" "from" "[I") (List.mem_of_getElem? (i := 6) rfl)) (fun _ h9 => h9) rfl dX4_drift_78 ?_
      refine lv_aload_n hx hb dX4_drift_81 rfl (lv_at hl 0 rfl) ?_
      refine va_get (D := D) (ci := 4) (v := .int (nI R.length)) (C := RX4) (T := TX4) (N := 18) hx hb hts hiX4 hown hK hP 0 rfl rfl 6 (by decide) (hts (.fieldLink RX4 59 "StateKeeperModel" "drifts" "I") (List.mem_of_getElem? (i := 3) rfl)) (fun _ h9 => h9) rfl dX4_drift_82 ?_
      refine lv_iload_n hx hb dX4_drift_85 rfl (lv_at hl 1 rfl) ?_
      refine lz_iast hx hb hK hP hD hS 2 1 rfl rfl (by omega) (by omega) dX4_drift_86 (fun H locs hP hD hS => ?_)
      have hP : va_P D vwCl ([((u 0), .inr (4, [.int (nI 0), .int (nI n), .ref (u 1), .int (nI (sT x)), .int (nI ev), .int (sd x), .int (nI R.length), .ref (u 2), .ref (u 3), .ref (u 4), .int (nI ((sL x).length)), .ref (u 5), .ref (u 6), .ref (u 7), .ref (u 8), .int (nI ((sS x).length)), .ref (u 9), .ref (u 10)])), ((u 1), .inl (cF, 256, .inr (.inr (.inl (sc x))))), ((u 2), .inl (cI, 64, .inl (upd r1 R.length (nI a0)))), ((u 3), .inl (cI, 64, .inl r2)), ((u 4), .inl (cF, 64, .inr (.inr (.inl r3)))), ((u 5), .inl (cI, 512, .inl f1)), ((u 6), .inl (cI, 512, .inl f2)), ((u 7), .inl (cI, 512, .inl f3)), ((u 8), .inl (cF, 512, .inr (.inr (.inl f4)))), ((u 9), .inl (cI, 16, .inl k1)), ((u 10), .inl (cF, 4096, .inr (.inr (.inl kc))))]) H := hP
      have hD : va_D A ([((u 0), .inr (4, [.int (nI 0), .int (nI n), .ref (u 1), .int (nI (sT x)), .int (nI ev), .int (sd x), .int (nI R.length), .ref (u 2), .ref (u 3), .ref (u 4), .int (nI ((sL x).length)), .ref (u 5), .ref (u 6), .ref (u 7), .ref (u 8), .int (nI ((sS x).length)), .ref (u 9), .ref (u 10)])), ((u 1), .inl (cF, 256, .inr (.inr (.inl (sc x))))), ((u 2), .inl (cI, 64, .inl (upd r1 R.length (nI a0)))), ((u 3), .inl (cI, 64, .inl r2)), ((u 4), .inl (cF, 64, .inr (.inr (.inl r3)))), ((u 5), .inl (cI, 512, .inl f1)), ((u 6), .inl (cI, 512, .inl f2)), ((u 7), .inl (cI, 512, .inl f3)), ((u 8), .inl (cF, 512, .inr (.inr (.inl f4)))), ((u 9), .inl (cI, 16, .inl k1)), ((u 10), .inl (cF, 4096, .inr (.inr (.inl kc))))]) := hD
      refine lv_aload_n hx hb dX4_drift_87 rfl (lv_at hl 0 rfl) ?_
      refine va_get (D := D) (ci := 4) (v := .ref (u 3)) (C := RX4) (T := TX4) (N := 18) hx hb hts hiX4 hown hK hP 0 rfl rfl 8 (by decide) (hts (.fieldLink RX4 17 "StateKeeperModel" "to" "[I") (List.mem_of_getElem? (i := 7) rfl)) (fun _ h9 => h9) rfl dX4_drift_88 ?_
      refine lv_aload_n hx hb dX4_drift_91 rfl (lv_at hl 0 rfl) ?_
      refine va_get (D := D) (ci := 4) (v := .int (nI R.length)) (C := RX4) (T := TX4) (N := 18) hx hb hts hiX4 hown hK hP 0 rfl rfl 6 (by decide) (hts (.fieldLink RX4 59 "StateKeeperModel" "drifts" "I") (List.mem_of_getElem? (i := 3) rfl)) (fun _ h9 => h9) rfl dX4_drift_92 ?_
      refine lv_iload_n hx hb dX4_drift_95 rfl (lv_at hl 2 rfl) ?_
      refine lz_iast hx hb hK hP hD hS 3 1 rfl rfl (by omega) (by omega) dX4_drift_96 (fun H locs hP hD hS => ?_)
      have hP : va_P D vwCl ([((u 0), .inr (4, [.int (nI 0), .int (nI n), .ref (u 1), .int (nI (sT x)), .int (nI ev), .int (sd x), .int (nI R.length), .ref (u 2), .ref (u 3), .ref (u 4), .int (nI ((sL x).length)), .ref (u 5), .ref (u 6), .ref (u 7), .ref (u 8), .int (nI ((sS x).length)), .ref (u 9), .ref (u 10)])), ((u 1), .inl (cF, 256, .inr (.inr (.inl (sc x))))), ((u 2), .inl (cI, 64, .inl (upd r1 R.length (nI a0)))), ((u 3), .inl (cI, 64, .inl (upd r2 R.length (nI b0)))), ((u 4), .inl (cF, 64, .inr (.inr (.inl r3)))), ((u 5), .inl (cI, 512, .inl f1)), ((u 6), .inl (cI, 512, .inl f2)), ((u 7), .inl (cI, 512, .inl f3)), ((u 8), .inl (cF, 512, .inr (.inr (.inl f4)))), ((u 9), .inl (cI, 16, .inl k1)), ((u 10), .inl (cF, 4096, .inr (.inr (.inl kc))))]) H := hP
      have hD : va_D A ([((u 0), .inr (4, [.int (nI 0), .int (nI n), .ref (u 1), .int (nI (sT x)), .int (nI ev), .int (sd x), .int (nI R.length), .ref (u 2), .ref (u 3), .ref (u 4), .int (nI ((sL x).length)), .ref (u 5), .ref (u 6), .ref (u 7), .ref (u 8), .int (nI ((sS x).length)), .ref (u 9), .ref (u 10)])), ((u 1), .inl (cF, 256, .inr (.inr (.inl (sc x))))), ((u 2), .inl (cI, 64, .inl (upd r1 R.length (nI a0)))), ((u 3), .inl (cI, 64, .inl (upd r2 R.length (nI b0)))), ((u 4), .inl (cF, 64, .inr (.inr (.inl r3)))), ((u 5), .inl (cI, 512, .inl f1)), ((u 6), .inl (cI, 512, .inl f2)), ((u 7), .inl (cI, 512, .inl f3)), ((u 8), .inl (cF, 512, .inr (.inr (.inl f4)))), ((u 9), .inl (cI, 16, .inl k1)), ((u 10), .inl (cF, 4096, .inr (.inr (.inl kc))))]) := hD
      refine lv_aload_n hx hb dX4_drift_97 rfl (lv_at hl 0 rfl) ?_
      refine va_get (D := D) (ci := 4) (v := .ref (u 4)) (C := RX4) (T := TX4) (N := 18) hx hb hts hiX4 hown hK hP 0 rfl rfl 9 (by decide) (hts (.fieldLink RX4 20 "StateKeeperModel" "factors" "[F") (List.mem_of_getElem? (i := 8) rfl)) (fun _ h9 => h9) rfl dX4_drift_98 ?_
      refine lv_aload_n hx hb dX4_drift_101 rfl (lv_at hl 0 rfl) ?_
      refine va_get (D := D) (ci := 4) (v := .int (nI R.length)) (C := RX4) (T := TX4) (N := 18) hx hb hts hiX4 hown hK hP 0 rfl rfl 6 (by decide) (hts (.fieldLink RX4 59 "StateKeeperModel" "drifts" "I") (List.mem_of_getElem? (i := 3) rfl)) (fun _ h9 => h9) rfl dX4_drift_102 ?_
      refine lv_fload_n hx hb dX4_drift_105 rfl (lv_at hl 3 rfl) ?_
      refine lz_fast hx hb hK hP hD hS 4 0 rfl rfl (by omega) (by omega) dX4_drift_106 (fun H locs hP hD hS => ?_)
      have hP : va_P D vwCl ([((u 0), .inr (4, [.int (nI 0), .int (nI n), .ref (u 1), .int (nI (sT x)), .int (nI ev), .int (sd x), .int (nI R.length), .ref (u 2), .ref (u 3), .ref (u 4), .int (nI ((sL x).length)), .ref (u 5), .ref (u 6), .ref (u 7), .ref (u 8), .int (nI ((sS x).length)), .ref (u 9), .ref (u 10)])), ((u 1), .inl (cF, 256, .inr (.inr (.inl (sc x))))), ((u 2), .inl (cI, 64, .inl (upd r1 R.length (nI a0)))), ((u 3), .inl (cI, 64, .inl (upd r2 R.length (nI b0)))), ((u 4), .inl (cF, 64, .inr (.inr (.inl (vf_upd r3 R.length f))))), ((u 5), .inl (cI, 512, .inl f1)), ((u 6), .inl (cI, 512, .inl f2)), ((u 7), .inl (cI, 512, .inl f3)), ((u 8), .inl (cF, 512, .inr (.inr (.inl f4)))), ((u 9), .inl (cI, 16, .inl k1)), ((u 10), .inl (cF, 4096, .inr (.inr (.inl kc))))]) H := hP
      have hD : va_D A ([((u 0), .inr (4, [.int (nI 0), .int (nI n), .ref (u 1), .int (nI (sT x)), .int (nI ev), .int (sd x), .int (nI R.length), .ref (u 2), .ref (u 3), .ref (u 4), .int (nI ((sL x).length)), .ref (u 5), .ref (u 6), .ref (u 7), .ref (u 8), .int (nI ((sS x).length)), .ref (u 9), .ref (u 10)])), ((u 1), .inl (cF, 256, .inr (.inr (.inl (sc x))))), ((u 2), .inl (cI, 64, .inl (upd r1 R.length (nI a0)))), ((u 3), .inl (cI, 64, .inl (upd r2 R.length (nI b0)))), ((u 4), .inl (cF, 64, .inr (.inr (.inl (vf_upd r3 R.length f))))), ((u 5), .inl (cI, 512, .inl f1)), ((u 6), .inl (cI, 512, .inl f2)), ((u 7), .inl (cI, 512, .inl f3)), ((u 8), .inl (cF, 512, .inr (.inr (.inl f4)))), ((u 9), .inl (cI, 16, .inl k1)), ((u 10), .inl (cF, 4096, .inr (.inr (.inl kc))))]) := hD
      refine lv_aload_n hx hb dX4_drift_107 rfl (lv_at hl 0 rfl) ?_
      refine lv_dup hx hb dX4_drift_108 rfl ?_
      refine va_get (D := D) (ci := 4) (v := .int (nI R.length)) (C := RX4) (T := TX4) (N := 18) hx hb hts hiX4 hown hK hP 0 rfl rfl 6 (by decide) (hts (.fieldLink RX4 59 "StateKeeperModel" "drifts" "I") (List.mem_of_getElem? (i := 3) rfl)) (fun _ h9 => h9) rfl dX4_drift_109 ?_
      refine lv_iconst (v := nI 1) hx hb dX4_drift_112 (by decide) ?_
      refine lv_iadd hx hb dX4_drift_113 ?_
      refine lz_i (nI_add _ _) ?_
      refine va_put (D := D) (ci := 4) (v := .int (nI (R.length + 1))) (ty := .int) (C := RX4) (T := TX4) (N := 18) hx hb hts hiX4 tyX4 tyX4_ok nmX4 hown hK hP hD hS 0 rfl rfl 6 (by decide) (hts (.fieldLink RX4 59 "StateKeeperModel" "drifts" "I") (List.mem_of_getElem? (i := 3) rfl)) (fun _ h9 => h9) rfl (by decide +kernel) rfl rfl (Nat.le_of_ble_eq_true rfl) dX4_drift_114 (fun H locs hP hD hS => ?_)
      have hP : va_P D vwCl ([((u 0), .inr (4, [.int (nI 0), .int (nI n), .ref (u 1), .int (nI (sT x)), .int (nI ev), .int (sd x), .int (nI (R.length + 1)), .ref (u 2), .ref (u 3), .ref (u 4), .int (nI ((sL x).length)), .ref (u 5), .ref (u 6), .ref (u 7), .ref (u 8), .int (nI ((sS x).length)), .ref (u 9), .ref (u 10)])), ((u 1), .inl (cF, 256, .inr (.inr (.inl (sc x))))), ((u 2), .inl (cI, 64, .inl (upd r1 R.length (nI a0)))), ((u 3), .inl (cI, 64, .inl (upd r2 R.length (nI b0)))), ((u 4), .inl (cF, 64, .inr (.inr (.inl (vf_upd r3 R.length f))))), ((u 5), .inl (cI, 512, .inl f1)), ((u 6), .inl (cI, 512, .inl f2)), ((u 7), .inl (cI, 512, .inl f3)), ((u 8), .inl (cF, 512, .inr (.inr (.inl f4)))), ((u 9), .inl (cI, 16, .inl k1)), ((u 10), .inl (cF, 4096, .inr (.inr (.inl kc))))]) H := hP
      have hD : va_D A ([((u 0), .inr (4, [.int (nI 0), .int (nI n), .ref (u 1), .int (nI (sT x)), .int (nI ev), .int (sd x), .int (nI (R.length + 1)), .ref (u 2), .ref (u 3), .ref (u 4), .int (nI ((sL x).length)), .ref (u 5), .ref (u 6), .ref (u 7), .ref (u 8), .int (nI ((sS x).length)), .ref (u 9), .ref (u 10)])), ((u 1), .inl (cF, 256, .inr (.inr (.inl (sc x))))), ((u 2), .inl (cI, 64, .inl (upd r1 R.length (nI a0)))), ((u 3), .inl (cI, 64, .inl (upd r2 R.length (nI b0)))), ((u 4), .inl (cF, 64, .inr (.inr (.inl (vf_upd r3 R.length f))))), ((u 5), .inl (cI, 512, .inl f1)), ((u 6), .inl (cI, 512, .inl f2)), ((u 7), .inl (cI, 512, .inl f3)), ((u 8), .inl (cF, 512, .inr (.inr (.inl f4)))), ((u 9), .inl (cI, 16, .inl k1)), ((u 10), .inl (cF, 4096, .inr (.inr (.inl kc))))]) := hD
      refine lv_aload_n hx hb dX4_drift_117 rfl (lv_at hl 0 rfl) ?_
      refine va_get (D := D) (ci := 4) (v := .int (nI (R.length + 1))) (C := RX4) (T := TX4) (N := 18) hx hb hts hiX4 hown hK hP 0 rfl rfl 6 (by decide) (hts (.fieldLink RX4 59 "StateKeeperModel" "drifts" "I") (List.mem_of_getElem? (i := 3) rfl)) (fun _ h9 => h9) rfl dX4_drift_118 ?_
      exact W.iret hx hb hr (fun t9 ht9 _ => ⟨⟨_, [((u 0), .inr (4, [.int (nI 0), .int (nI n), .ref (u 1), .int (nI (sT x)), .int (nI ev), .int (sd x), .int (nI (R.length + 1)), .ref (u 2), .ref (u 3), .ref (u 4), .int (nI ((sL x).length)), .ref (u 5), .ref (u 6), .ref (u 7), .ref (u 8), .int (nI ((sS x).length)), .ref (u 9), .ref (u 10)])), ((u 1), .inl (cF, 256, .inr (.inr (.inl (sc x))))), ((u 2), .inl (cI, 64, .inl (upd r1 R.length (nI a0)))), ((u 3), .inl (cI, 64, .inl (upd r2 R.length (nI b0)))), ((u 4), .inl (cF, 64, .inr (.inr (.inl (vf_upd r3 R.length f))))), ((u 5), .inl (cI, 512, .inl f1)), ((u 6), .inl (cI, 512, .inl f2)), ((u 7), .inl (cI, 512, .inl f3)), ((u 8), .inl (cF, 512, .inr (.inr (.inl f4)))), ((u 9), .inl (cI, 16, .inl k1)), ((u 10), .inl (cF, 4096, .inr (.inr (.inl kc))))], rfl, ⟨0, hk9, fun _ => ⟨rfl, _, _, _, _, _, _, _, _, _, by rw [tn_nI ha8, tn_nI hb7]; exact drOk_app hdr (a0, b0, f), hrec, hks, by rw [List.length_append]; rfl⟩, fun q => absurd rfl q⟩, by show va_P D vwCl _ t9.heap; rw [ht9]; exact hP⟩, hS.F ht9⟩) hS.2.2 dX4_drift_121
    · have hk0 : ¬ k9 = 0 := bz_0 hb9 c_2
      refine lv_iconst (v := nI 0) hx hb dX4_drift_75 (by decide) ?_
      exact W.iret hx hb hr (fun t9 ht9 _ => ⟨⟨_, w1, rfl, ⟨k9, hk9, fun q => absurd q hk0, fun _ => hw9⟩, by show va_P D vwCl _ t9.heap; rw [ht9]; exact hP⟩, hS.F ht9⟩) hS.2.2 dX4_drift_76
  have j2 : ∀ b1 b2 : Int32, bz (kn n a ∧ kn n b) b1 → bz (inF c4N c4P f) b2 → W p l e (rmk 3 0 0) s m [.ref (u 0), .int a, .int b, .float f].toArray below meth c s.heap [] 0 0 (MQ below (va_Qi (fun (r : Int32) (w1 : va_W) => ∃ k, cdR (kn n a ∧ kn n b) (inF c4N c4P f) (R.length < 64 ∧ sT x = 0 ∧ (sL x).length = 0) k ∧ (k = 0 → r = (nI (R.length + 1)) ∧ WM cI cF u n ev (nI k) (R ++ [(tn a, tn b, f)]) x w1) ∧ (k ≠ 0 → WM cI cF u n ev (nI k) R x w1)) (fun w1 t => va_P D vwCl w1 t.heap) A) [.ref (u 0), .int a, .int b, .float f].toArray s 0 0 A) (F0 m 41 ls [.int b2, .int b1, .ref (u 0)]) := by
    intro b1 b2 h1 h2
    refine lv_aload_n hx hb dX4_drift_41 rfl (lv_at hl 0 rfl) ?_
    refine va_get (D := D) (ci := 4) (v := .int (nI R.length)) (C := RX4) (T := TX4) (N := 18) hx hb hts hiX4 hown hK hP 0 rfl rfl 6 (by decide) (hts (.fieldLink RX4 59 "StateKeeperModel" "drifts" "I") (List.mem_of_getElem? (i := 3) rfl)) (fun _ h9 => h9) rfl dX4_drift_42 ?_
    refine lv_bipush (v := nI 64) hx hb dX4_drift_45 (by decide) ?_
    refine lv_icmp_ge (tgt := 68) hx hb dX4_drift_47 (by decide) (fun c_3 => ?_) (fun c_3 => ?_)
    · refine lv_iconst (v := nI 0) hx hb dX4_drift_68 (by decide) ?_
      exact j3 b1 b2 _ h1 h2 (Or.inr ⟨fun q => absurd ((nI_le_iff (by omega) (by omega)).mp c_3) (by omega), rfl⟩)
    · have e1 : R.length < 64 := by have := mt (nI_le_iff (a := 64) (b := R.length) (by omega) (by omega)).mpr c_3; omega
      refine lv_aload_n hx hb dX4_drift_50 rfl (lv_at hl 0 rfl) ?_
      refine va_get (D := D) (ci := 4) (v := .int (nI (sT x))) (C := RX4) (T := TX4) (N := 18) hx hb hts hiX4 hown hK hP 0 rfl rfl 3 (by decide) (hts (.fieldLink RX4 62 "StateKeeperModel" "now" "I") (List.mem_of_getElem? (i := 4) rfl)) (fun _ h9 => h9) rfl dX4_drift_51 ?_
      refine lv_if_ne (tgt := 68) hx hb dX4_drift_54 (by decide) (fun c_4 => ?_) (fun c_4 => ?_)
      · refine lv_iconst (v := nI 0) hx hb dX4_drift_68 (by decide) ?_
        exact j3 b1 b2 _ h1 h2 (Or.inr ⟨fun q => c_4 ((iz_ne0 (by omega)).mpr q.2.1), rfl⟩)
      · have e2 := (iz_ne0 (by omega)).mp c_4
        refine lv_aload_n hx hb dX4_drift_57 rfl (lv_at hl 0 rfl) ?_
        refine va_get (D := D) (ci := 4) (v := .int (nI ((sL x).length))) (C := RX4) (T := TX4) (N := 18) hx hb hts hiX4 hown hK hP 0 rfl rfl 10 (by decide) (hts (.fieldLink RX4 65 "StateKeeperModel" "inputs" "I") (List.mem_of_getElem? (i := 5) rfl)) (fun _ h9 => h9) rfl dX4_drift_58 ?_
        refine lv_if_ne (tgt := 68) hx hb dX4_drift_61 (by decide) (fun c_5 => ?_) (fun c_5 => ?_)
        · refine lv_iconst (v := nI 0) hx hb dX4_drift_68 (by decide) ?_
          exact j3 b1 b2 _ h1 h2 (Or.inr ⟨fun q => c_5 ((iz_ne0 (by omega)).mpr q.2.2), rfl⟩)
        · have e3 := (iz_ne0 (by omega)).mp c_5
          refine lv_iconst (v := nI 1) hx hb dX4_drift_64 (by decide) ?_
          refine lv_goto (tgt := 69) hx hb dX4_drift_65 (by decide) ?_
          exact j3 b1 b2 _ h1 h2 (Or.inl ⟨⟨e1, e2, e3⟩, rfl⟩)
  have j1 : ∀ b1 : Int32, bz (kn n a ∧ kn n b) b1 → W p l e (rmk 3 0 0) s m [.ref (u 0), .int a, .int b, .float f].toArray below meth c s.heap [] 0 0 (MQ below (va_Qi (fun (r : Int32) (w1 : va_W) => ∃ k, cdR (kn n a ∧ kn n b) (inF c4N c4P f) (R.length < 64 ∧ sT x = 0 ∧ (sL x).length = 0) k ∧ (k = 0 → r = (nI (R.length + 1)) ∧ WM cI cF u n ev (nI k) (R ++ [(tn a, tn b, f)]) x w1) ∧ (k ≠ 0 → WM cI cF u n ev (nI k) R x w1)) (fun w1 t => va_P D vwCl w1 t.heap) A) [.ref (u 0), .int a, .int b, .float f].toArray s 0 0 A) (F0 m 22 ls [.int b1, .ref (u 0)]) := by
    intro b1 h1
    refine lv_fload_n hx hb dX4_drift_22 rfl (lv_at hl 3 rfl) ?_
    refine lv_ldcf (v := c4N) hx hb hown (hts (.constantFloat RX4 57 (3229614080)) (List.mem_of_getElem? (i := 1) rfl)) dX4_drift_23 ?_
    refine lv_fcmp hx hb dX4_drift_25 ?_
    refine lv_if_lt (tgt := 40) hx hb dX4_drift_26 (by decide) (fun c_6 => ?_) (fun c_6 => ?_)
    · refine lv_iconst (v := nI 0) hx hb dX4_drift_40 (by decide) ?_
      exact j2 b1 _ h1 (Or.inr ⟨fun q => (fl_ltl _ _).mp c_6 q.1, rfl⟩)
    · have e1 := Decidable.not_not.mp (mt (fl_ltl _ _).mpr c_6)
      refine lv_fload_n hx hb dX4_drift_29 rfl (lv_at hl 3 rfl) ?_
      refine lv_ldcf (v := c4P) hx hb hown (hts (.constantFloat RX4 58 (1082130432)) (List.mem_of_getElem? (i := 2) rfl)) dX4_drift_30 ?_
      refine lv_fcmp hx hb dX4_drift_32 ?_
      refine lv_if_gt (tgt := 40) hx hb dX4_drift_33 (by decide) (fun c_7 => ?_) (fun c_7 => ?_)
      · refine lv_iconst (v := nI 0) hx hb dX4_drift_40 (by decide) ?_
        exact j2 b1 _ h1 (Or.inr ⟨fun q => (fl_gtg _ _).mp c_7 q.2, rfl⟩)
      · have e2 := Decidable.not_not.mp (mt (fl_gtg _ _).mpr c_7)
        refine lv_iconst (v := nI 1) hx hb dX4_drift_36 (by decide) ?_
        refine lv_goto (tgt := 41) hx hb dX4_drift_37 (by decide) ?_
        exact j2 b1 _ h1 (Or.inl ⟨⟨e1, e2⟩, rfl⟩)
  refine lv_aload_n hx hb dX4_drift_0 rfl (lv_at hl 0 rfl) ?_
  refine lv_aload_n hx hb dX4_drift_1 rfl (lv_at hl 0 rfl) ?_
  refine lv_iload_n hx hb dX4_drift_2 rfl (lv_at hl 1 rfl) ?_
  refine vp_callSi (lz_runV (C := RX4) (As := [.int a]) (rest := [.ref (u 0)]) hC hS hl (c_X4_known hw hn9) (cwV 1 hts gX4_drift_X4_known rfl rfl rfl (by decide +kernel) ⟨Nat.le_of_ble_eq_true rfl, Nat.le_of_ble_eq_true rfl⟩) hP hD (va_recv hK hP (ci := 4) (q0 := 0) rfl rfl) rfl rfl (Nat.le_of_ble_eq_true rfl) dX4_drift_3 ⟨Nat.le_of_ble_eq_true rfl, Nat.le_of_ble_eq_true rfl⟩).run (fun x1 hx1 => ?_)
  refine lv_if_eq (tgt := 21) hx hb dX4_drift_6 (by decide) (fun c_8 => ?_) (fun c_8 => ?_)
  · refine lv_iconst (v := nI 0) hx hb dX4_drift_21 (by decide) ?_
    exact j1 _ (Or.inr ⟨fun q => bz_0 hx1 c_8 q.1, rfl⟩)
  · refine lv_aload_n hx hb dX4_drift_9 rfl (lv_at hl 0 rfl) ?_
    refine lv_iload_n hx hb dX4_drift_10 rfl (lv_at hl 2 rfl) ?_
    refine vp_callSi (lz_runV (C := RX4) (As := [.int b]) (rest := [.ref (u 0)]) hC hS hl (c_X4_known hw hn9) (cwV 1 hts gX4_drift_X4_known rfl rfl rfl (by decide +kernel) ⟨Nat.le_of_ble_eq_true rfl, Nat.le_of_ble_eq_true rfl⟩) hP hD (va_recv hK hP (ci := 4) (q0 := 0) rfl rfl) rfl rfl (Nat.le_of_ble_eq_true rfl) dX4_drift_11 ⟨Nat.le_of_ble_eq_true rfl, Nat.le_of_ble_eq_true rfl⟩).run (fun x2 hx2 => ?_)
    refine lv_if_eq (tgt := 21) hx hb dX4_drift_14 (by decide) (fun c_9 => ?_) (fun c_9 => ?_)
    · refine lv_iconst (v := nI 0) hx hb dX4_drift_21 (by decide) ?_
      exact j1 _ (Or.inr ⟨fun q => bz_0 hx2 c_9 q.2, rfl⟩)
    · refine lv_iconst (v := nI 1) hx hb dX4_drift_17 (by decide) ?_
      refine lv_goto (tgt := 22) hx hb dX4_drift_18 (by decide) ?_
      exact j1 _ (Or.inl ⟨⟨bz_1 hx1 c_8, bz_1 hx2 c_9⟩, rfl⟩)

set_option maxRecDepth 100000 in
set_option maxHeartbeats 4000000 in
/-- every(k) -/
theorem c_X4_every {z : Int32} (hw : WM cI cF u n ev th R x w) (hx0 : Ok n ev R x) : Met l yX4_every wsX4_every (rmk 3 0 0) (pcW l D cI cF cQ aT [.ref (u 0), .int z] w sz) (va_Qi (fun (r : Int32) (w1 : va_W) => ∃ k, cdR (0 ≤ z.toInt ∧ z.toInt ≤ 100) True True k ∧ (k = 0 → r = (nI ev) ∧ WM cI cF u n (tn z) (nI k) R x w1) ∧ (k ≠ 0 → WM cI cF u n ev (nI k) R x w1)) (fun w1 t => va_P D vwCl w1 t.heap) (va_A w sz)) 0 0 (va_A w sz) := by
  obtain ⟨r1, r2, r3, f1, f2, f3, f4, k1, kc, hdr, hrec, hks, rfl⟩ := id hw
  refine lz_ofM (Qf := fun A => va_Qi (fun (r : Int32) (w1 : va_W) => ∃ k, cdR (0 ≤ z.toInt ∧ z.toInt ≤ 100) True True k ∧ (k = 0 → r = (nI ev) ∧ WM cI cF u n (tn z) (nI k) R x w1) ∧ (k ≠ 0 → WM cI cF u n ev (nI k) R x w1)) (fun w1 t => va_P D vwCl w1 t.heap) A) (cc := cX4_every) (maxL := 3) (ret := (some .int)) (by decide) rfl (Nat.le_of_ble_eq_true rfl) ?_
  intro p e s m below meth c A hAe hsz hx hb hr hlk hin hC hP hD hS ls hl
  clear hAe
  have hts := hC.1.2.2.2.2
  have hown : s.vm.findClass RX4 = some m.cls := hC.1.2.2.2.1
  have hml := hC.1.2.2.1
  have hA := hC.2.1
  have hK := hC.2.2.2.1
  have hnm := hC.2.2.2.2.1
  have hnf := hC.2.2.2.2.2.1
  have hiX4 : ∀ w ∈ u_ws RX4 TX4 18, w ∈ wsX4_every := fun _ h => List.mem_cons_of_mem _ (List.mem_append_right _ h)
  have hl : lv_has ls 3 [(0, .ref (u 0)), (1, .int z)] := hl
  have hn9 := hx0.1.2
  have hn1 := hx0.1.1
  have hev9 := hx0.2.1
  have hR9 : dIn n R := hx0.2.2.1
  have hcf : cfin (sc x) := hx0.2.2.2.1
  have hT9 : sT x < 2 ^ 29 := hx0.2.2.2.2.1
  have hL9 : rIn n (sL x) := hx0.2.2.2.2.2.1
  have hS9 : sGood (sS x) := hx0.2.2.2.2.2.2.1
  have hL8 := hL9.1
  have hS8 := hS9.2.1
  have hR8 := hR9.1
  have j1 : ∀ b1 : Int32, bz (0 ≤ z.toInt ∧ z.toInt ≤ 100) b1 → W p l e (rmk 3 0 0) s m [.ref (u 0), .int z].toArray below meth c s.heap [] 0 0 (MQ below (va_Qi (fun (r : Int32) (w1 : va_W) => ∃ k, cdR (0 ≤ z.toInt ∧ z.toInt ≤ 100) True True k ∧ (k = 0 → r = (nI ev) ∧ WM cI cF u n (tn z) (nI k) R x w1) ∧ (k ≠ 0 → WM cI cF u n ev (nI k) R x w1)) (fun w1 t => va_P D vwCl w1 t.heap) A) [.ref (u 0), .int z].toArray s 0 0 A) (F0 m 16 ls [.int b1, .ref (u 0)]) := by
    intro b1 h1
    refine lv_iconst (v := nI 1) hx hb dX4_every_16 (by decide) ?_
    refine lv_iconst (v := nI 1) hx hb dX4_every_17 (by decide) ?_
    refine lz_cMi0 (lz_runV (C := RX4) (As := [.int b1, .int (nI 1), .int (nI 1)]) (rest := []) hC hS hl (c_X4_goes h1 (Or.inl ⟨trivial, rfl⟩ : bz True (nI 1)) (Or.inl ⟨trivial, rfl⟩ : bz True (nI 1)) hw) (cwV 3 hts gX4_every_X4_goes rfl rfl rfl (by decide +kernel) ⟨Nat.le_of_ble_eq_true rfl, Nat.le_of_ble_eq_true rfl⟩) hP hD (va_recv hK hP (ci := 4) (q0 := 0) rfl rfl) rfl rfl (Nat.le_of_ble_eq_true rfl) dX4_every_18 ⟨Nat.le_of_ble_eq_true rfl, Nat.le_of_ble_eq_true rfl⟩) hD hS hA (fun r w1 h => by obtain ⟨k, -, -, h⟩ := h; exact h.ad2 hw) (fun r_1 w1 H locs hpo hP hD hS => ?_)
    obtain ⟨k9, hk9, hb9, hw9⟩ := hpo
    refine lv_if_ne (tgt := 26) hx hb dX4_every_21 (by decide) (fun c_2 => ?_) (fun c_2 => ?_)
    · have hk0 : k9 = 0 := bz_1 hb9 c_2
      subst hk0
      have hpp := cdR_0 hk9 rfl
      obtain ⟨r1, r2, r3, f1, f2, f3, f4, k1, kc, hdr, hrec, hks, rfl⟩ := id hw9
      have hP : va_P D vwCl ([((u 0), .inr (4, [.int (nI 0), .int (nI n), .ref (u 1), .int (nI (sT x)), .int (nI ev), .int (sd x), .int (nI R.length), .ref (u 2), .ref (u 3), .ref (u 4), .int (nI ((sL x).length)), .ref (u 5), .ref (u 6), .ref (u 7), .ref (u 8), .int (nI ((sS x).length)), .ref (u 9), .ref (u 10)])), ((u 1), .inl (cF, 256, .inr (.inr (.inl (sc x))))), ((u 2), .inl (cI, 64, .inl r1)), ((u 3), .inl (cI, 64, .inl r2)), ((u 4), .inl (cF, 64, .inr (.inr (.inl r3)))), ((u 5), .inl (cI, 512, .inl f1)), ((u 6), .inl (cI, 512, .inl f2)), ((u 7), .inl (cI, 512, .inl f3)), ((u 8), .inl (cF, 512, .inr (.inr (.inl f4)))), ((u 9), .inl (cI, 16, .inl k1)), ((u 10), .inl (cF, 4096, .inr (.inr (.inl kc))))]) H := hP
      have hD : va_D A ([((u 0), .inr (4, [.int (nI 0), .int (nI n), .ref (u 1), .int (nI (sT x)), .int (nI ev), .int (sd x), .int (nI R.length), .ref (u 2), .ref (u 3), .ref (u 4), .int (nI ((sL x).length)), .ref (u 5), .ref (u 6), .ref (u 7), .ref (u 8), .int (nI ((sS x).length)), .ref (u 9), .ref (u 10)])), ((u 1), .inl (cF, 256, .inr (.inr (.inl (sc x))))), ((u 2), .inl (cI, 64, .inl r1)), ((u 3), .inl (cI, 64, .inl r2)), ((u 4), .inl (cF, 64, .inr (.inr (.inl r3)))), ((u 5), .inl (cI, 512, .inl f1)), ((u 6), .inl (cI, 512, .inl f2)), ((u 7), .inl (cI, 512, .inl f3)), ((u 8), .inl (cF, 512, .inr (.inr (.inl f4)))), ((u 9), .inl (cI, 16, .inl k1)), ((u 10), .inl (cF, 4096, .inr (.inr (.inl kc))))]) := hD
      obtain ⟨z0, hz8, rfl, hz⟩ := iz_nat hpp.1.1
      have hl : lv_has ls 3 [(0, .ref (u 0)), (1, .int (nI z0))] := hl
      refine lv_aload_n hx hb dX4_every_26 rfl (lv_at hl 0 rfl) ?_
      refine va_get (D := D) (ci := 4) (v := .int (nI ev)) (C := RX4) (T := TX4) (N := 18) hx hb hts hiX4 hown hK hP 0 rfl rfl 4 (by decide) (hts (.fieldLink RX4 72 "StateKeeperModel" "every" "I") (List.mem_of_getElem? (i := 1) rfl)) (fun _ h9 => h9) rfl dX4_every_27 ?_
      refine lv_istore_n (lv' := [(2, .int (nI ev)), (0, .ref (u 0)), (1, .int (nI z0))]) hx hb dX4_every_30 rfl hl (by decide) rfl (fun ls hl => ?_)
      refine lv_aload_n hx hb dX4_every_31 rfl (lv_at hl 1 rfl) ?_
      refine lv_iload_n hx hb dX4_every_32 rfl (lv_at hl 2 rfl) ?_
      refine va_put (D := D) (ci := 4) (v := .int (nI z0)) (ty := .int) (C := RX4) (T := TX4) (N := 18) hx hb hts hiX4 tyX4 tyX4_ok nmX4 hown hK hP hD hS 0 rfl rfl 4 (by decide) (hts (.fieldLink RX4 72 "StateKeeperModel" "every" "I") (List.mem_of_getElem? (i := 1) rfl)) (fun _ h9 => h9) rfl (by decide +kernel) rfl rfl (Nat.le_of_ble_eq_true rfl) dX4_every_33 (fun H locs hP hD hS => ?_)
      have hP : va_P D vwCl ([((u 0), .inr (4, [.int (nI 0), .int (nI n), .ref (u 1), .int (nI (sT x)), .int (nI z0), .int (sd x), .int (nI R.length), .ref (u 2), .ref (u 3), .ref (u 4), .int (nI ((sL x).length)), .ref (u 5), .ref (u 6), .ref (u 7), .ref (u 8), .int (nI ((sS x).length)), .ref (u 9), .ref (u 10)])), ((u 1), .inl (cF, 256, .inr (.inr (.inl (sc x))))), ((u 2), .inl (cI, 64, .inl r1)), ((u 3), .inl (cI, 64, .inl r2)), ((u 4), .inl (cF, 64, .inr (.inr (.inl r3)))), ((u 5), .inl (cI, 512, .inl f1)), ((u 6), .inl (cI, 512, .inl f2)), ((u 7), .inl (cI, 512, .inl f3)), ((u 8), .inl (cF, 512, .inr (.inr (.inl f4)))), ((u 9), .inl (cI, 16, .inl k1)), ((u 10), .inl (cF, 4096, .inr (.inr (.inl kc))))]) H := hP
      have hD : va_D A ([((u 0), .inr (4, [.int (nI 0), .int (nI n), .ref (u 1), .int (nI (sT x)), .int (nI z0), .int (sd x), .int (nI R.length), .ref (u 2), .ref (u 3), .ref (u 4), .int (nI ((sL x).length)), .ref (u 5), .ref (u 6), .ref (u 7), .ref (u 8), .int (nI ((sS x).length)), .ref (u 9), .ref (u 10)])), ((u 1), .inl (cF, 256, .inr (.inr (.inl (sc x))))), ((u 2), .inl (cI, 64, .inl r1)), ((u 3), .inl (cI, 64, .inl r2)), ((u 4), .inl (cF, 64, .inr (.inr (.inl r3)))), ((u 5), .inl (cI, 512, .inl f1)), ((u 6), .inl (cI, 512, .inl f2)), ((u 7), .inl (cI, 512, .inl f3)), ((u 8), .inl (cF, 512, .inr (.inr (.inl f4)))), ((u 9), .inl (cI, 16, .inl k1)), ((u 10), .inl (cF, 4096, .inr (.inr (.inl kc))))]) := hD
      refine lv_iload_n hx hb dX4_every_36 rfl (lv_at hl 0 rfl) ?_
      exact W.iret hx hb hr (fun t9 ht9 _ => ⟨⟨_, [((u 0), .inr (4, [.int (nI 0), .int (nI n), .ref (u 1), .int (nI (sT x)), .int (nI z0), .int (sd x), .int (nI R.length), .ref (u 2), .ref (u 3), .ref (u 4), .int (nI ((sL x).length)), .ref (u 5), .ref (u 6), .ref (u 7), .ref (u 8), .int (nI ((sS x).length)), .ref (u 9), .ref (u 10)])), ((u 1), .inl (cF, 256, .inr (.inr (.inl (sc x))))), ((u 2), .inl (cI, 64, .inl r1)), ((u 3), .inl (cI, 64, .inl r2)), ((u 4), .inl (cF, 64, .inr (.inr (.inl r3)))), ((u 5), .inl (cI, 512, .inl f1)), ((u 6), .inl (cI, 512, .inl f2)), ((u 7), .inl (cI, 512, .inl f3)), ((u 8), .inl (cF, 512, .inr (.inr (.inl f4)))), ((u 9), .inl (cI, 16, .inl k1)), ((u 10), .inl (cF, 4096, .inr (.inr (.inl kc))))], rfl, ⟨0, hk9, fun _ => ⟨rfl, _, _, _, _, _, _, _, _, _, hdr, hrec, hks, by rw [tn_nI hz8]⟩, fun q => absurd rfl q⟩, by show va_P D vwCl _ t9.heap; rw [ht9]; exact hP⟩, hS.F ht9⟩) hS.2.2 dX4_every_37
    · have hk0 : ¬ k9 = 0 := bz_0 hb9 c_2
      refine lv_iconst (v := nI 0) hx hb dX4_every_24 (by decide) ?_
      exact W.iret hx hb hr (fun t9 ht9 _ => ⟨⟨_, w1, rfl, ⟨k9, hk9, fun q => absurd q hk0, fun _ => hw9⟩, by show va_P D vwCl _ t9.heap; rw [ht9]; exact hP⟩, hS.F ht9⟩) hS.2.2 dX4_every_25
  refine lv_aload_n hx hb dX4_every_0 rfl (lv_at hl 0 rfl) ?_
  refine lv_iload_n hx hb dX4_every_1 rfl (lv_at hl 1 rfl) ?_
  refine lv_if_lt (tgt := 15) hx hb dX4_every_2 (by decide) (fun c_3 => ?_) (fun c_3 => ?_)
  · refine lv_iconst (v := nI 0) hx hb dX4_every_15 (by decide) ?_
    exact j1 _ (Or.inr ⟨fun q => absurd (iz_lt0.mp c_3) (by omega), rfl⟩)
  · have e1 : 0 ≤ z.toInt := by have := mt iz_lt0.mpr c_3; omega
    refine lv_iload_n hx hb dX4_every_5 rfl (lv_at hl 1 rfl) ?_
    refine lv_bipush (v := nI 100) hx hb dX4_every_6 (by decide) ?_
    refine lv_icmp_gt (tgt := 15) hx hb dX4_every_8 (by decide) (fun c_4 => ?_) (fun c_4 => ?_)
    · refine lv_iconst (v := nI 0) hx hb dX4_every_15 (by decide) ?_
      exact j1 _ (Or.inr ⟨fun q => absurd ((iz_lt_l (a := 100) (by omega)).mp c_4) (by omega), rfl⟩)
    · have e2 : z.toInt ≤ 100 := by have := mt (iz_lt_l (a := 100) (by omega)).mpr c_4; omega
      refine lv_iconst (v := nI 1) hx hb dX4_every_11 (by decide) ?_
      refine lv_goto (tgt := 16) hx hb dX4_every_12 (by decide) ?_
      exact j1 _ (Or.inl ⟨⟨e1, e2⟩, rfl⟩)

set_option maxRecDepth 100000 in
set_option maxHeartbeats 4000000 in
/-- input(cell, way, v) -/
theorem c_X4_input {z q : Int32} {v : UInt32} (hw : WM cI cF u n ev th R x w) (hx0 : Ok n ev R x) : Met l yX4_input wsX4_input (rmk 3 0 0) (pcW l D cI cF cQ aT [.ref (u 0), .int z, .int q, .float v] w sz) (va_Qi (fun (r : Int32) (w1 : va_W) => ∃ k, cdR (kn n z) (okW q v) (1 + (sL x).length ≤ 512) k ∧ (k = 0 → r = (nI (cq (sL x ++ [(sT x, tn z, tn q, v)]) (sT x : Int))) ∧ WM cI cF u n ev (nI k) R (stL x (sL x ++ [(sT x, tn z, tn q, v)])) w1) ∧ (k ≠ 0 → WM cI cF u n ev (nI k) R x w1)) (fun w1 t => va_P D vwCl w1 t.heap) (va_A w sz)) 0 0 (va_A w sz) := by
  obtain ⟨r1, r2, r3, f1, f2, f3, f4, k1, kc, hdr, hrec, hks, rfl⟩ := id hw
  refine lz_ofM (Qf := fun A => va_Qi (fun (r : Int32) (w1 : va_W) => ∃ k, cdR (kn n z) (okW q v) (1 + (sL x).length ≤ 512) k ∧ (k = 0 → r = (nI (cq (sL x ++ [(sT x, tn z, tn q, v)]) (sT x : Int))) ∧ WM cI cF u n ev (nI k) R (stL x (sL x ++ [(sT x, tn z, tn q, v)])) w1) ∧ (k ≠ 0 → WM cI cF u n ev (nI k) R x w1)) (fun w1 t => va_P D vwCl w1 t.heap) A) (cc := cX4_input) (maxL := 4) (ret := (some .int)) (by decide) rfl (Nat.le_of_ble_eq_true rfl) ?_
  intro p e s m below meth c A hAe hsz hx hb hr hlk hin hC hP hD hS ls hl
  clear hAe
  have hts := hC.1.2.2.2.2
  have hown : s.vm.findClass RX4 = some m.cls := hC.1.2.2.2.1
  have hml := hC.1.2.2.1
  have hA := hC.2.1
  have hK := hC.2.2.2.1
  have hnm := hC.2.2.2.2.1
  have hnf := hC.2.2.2.2.2.1
  have hiX4 : ∀ w ∈ u_ws RX4 TX4 18, w ∈ wsX4_input := fun _ h => List.mem_cons_of_mem _ (List.mem_append_right _ h)
  have hl : lv_has ls 4 [(0, .ref (u 0)), (1, .int z), (2, .int q), (3, .float v)] := hl
  have hn9 := hx0.1.2
  have hn1 := hx0.1.1
  have hev9 := hx0.2.1
  have hR9 : dIn n R := hx0.2.2.1
  have hcf : cfin (sc x) := hx0.2.2.2.1
  have hT9 : sT x < 2 ^ 29 := hx0.2.2.2.2.1
  have hL9 : rIn n (sL x) := hx0.2.2.2.2.2.1
  have hS9 : sGood (sS x) := hx0.2.2.2.2.2.2.1
  have hL8 := hL9.1
  have hS8 := hS9.2.1
  have hR8 := hR9.1
  have j3 : ∀ b1 b2 b3 : Int32, bz (kn n z) b1 → bz (okW q v) b2 → bz (1 + (sL x).length ≤ 512) b3 → W p l e (rmk 3 0 0) s m [.ref (u 0), .int z, .int q, .float v].toArray below meth c s.heap [] 0 0 (MQ below (va_Qi (fun (r : Int32) (w1 : va_W) => ∃ k, cdR (kn n z) (okW q v) (1 + (sL x).length ≤ 512) k ∧ (k = 0 → r = (nI (cq (sL x ++ [(sT x, tn z, tn q, v)]) (sT x : Int))) ∧ WM cI cF u n ev (nI k) R (stL x (sL x ++ [(sT x, tn z, tn q, v)])) w1) ∧ (k ≠ 0 → WM cI cF u n ev (nI k) R x w1)) (fun w1 t => va_P D vwCl w1 t.heap) A) [.ref (u 0), .int z, .int q, .float v].toArray s 0 0 A) (F0 m 42 ls [.int b3, .int b2, .int b1, .ref (u 0)]) := by
    intro b1 b2 b3 h1 h2 h3
    refine lz_cMi0 (lz_runV (C := RX4) (As := [.int b1, .int b2, .int b3]) (rest := []) hC hS hl (c_X4_goes h1 h2 h3 hw) (cwV 3 hts gX4_input_X4_goes rfl rfl rfl (by decide +kernel) ⟨Nat.le_of_ble_eq_true rfl, Nat.le_of_ble_eq_true rfl⟩) hP hD (va_recv hK hP (ci := 4) (q0 := 0) rfl rfl) rfl rfl (Nat.le_of_ble_eq_true rfl) dX4_input_42 ⟨Nat.le_of_ble_eq_true rfl, Nat.le_of_ble_eq_true rfl⟩) hD hS hA (fun r w1 h => by obtain ⟨k, -, -, h⟩ := h; exact h.ad2 hw) (fun r_1 w1 H locs hpo hP hD hS => ?_)
    obtain ⟨k9, hk9, hb9, hw9⟩ := hpo
    refine lv_if_ne (tgt := 50) hx hb dX4_input_45 (by decide) (fun c_2 => ?_) (fun c_2 => ?_)
    · have hk0 : k9 = 0 := bz_1 hb9 c_2
      subst hk0
      have hpp := cdR_0 hk9 rfl
      obtain ⟨r1, r2, r3, f1, f2, f3, f4, k1, kc, hdr, hrec, hks, rfl⟩ := id hw9
      have hP : va_P D vwCl ([((u 0), .inr (4, [.int (nI 0), .int (nI n), .ref (u 1), .int (nI (sT x)), .int (nI ev), .int (sd x), .int (nI R.length), .ref (u 2), .ref (u 3), .ref (u 4), .int (nI ((sL x).length)), .ref (u 5), .ref (u 6), .ref (u 7), .ref (u 8), .int (nI ((sS x).length)), .ref (u 9), .ref (u 10)])), ((u 1), .inl (cF, 256, .inr (.inr (.inl (sc x))))), ((u 2), .inl (cI, 64, .inl r1)), ((u 3), .inl (cI, 64, .inl r2)), ((u 4), .inl (cF, 64, .inr (.inr (.inl r3)))), ((u 5), .inl (cI, 512, .inl f1)), ((u 6), .inl (cI, 512, .inl f2)), ((u 7), .inl (cI, 512, .inl f3)), ((u 8), .inl (cF, 512, .inr (.inr (.inl f4)))), ((u 9), .inl (cI, 16, .inl k1)), ((u 10), .inl (cF, 4096, .inr (.inr (.inl kc))))]) H := hP
      have hD : va_D A ([((u 0), .inr (4, [.int (nI 0), .int (nI n), .ref (u 1), .int (nI (sT x)), .int (nI ev), .int (sd x), .int (nI R.length), .ref (u 2), .ref (u 3), .ref (u 4), .int (nI ((sL x).length)), .ref (u 5), .ref (u 6), .ref (u 7), .ref (u 8), .int (nI ((sS x).length)), .ref (u 9), .ref (u 10)])), ((u 1), .inl (cF, 256, .inr (.inr (.inl (sc x))))), ((u 2), .inl (cI, 64, .inl r1)), ((u 3), .inl (cI, 64, .inl r2)), ((u 4), .inl (cF, 64, .inr (.inr (.inl r3)))), ((u 5), .inl (cI, 512, .inl f1)), ((u 6), .inl (cI, 512, .inl f2)), ((u 7), .inl (cI, 512, .inl f3)), ((u 8), .inl (cF, 512, .inr (.inr (.inl f4)))), ((u 9), .inl (cI, 16, .inl k1)), ((u 10), .inl (cF, 4096, .inr (.inr (.inl kc))))]) := hD
      obtain ⟨hz9, hq9, hlt⟩ := hpp
      obtain ⟨z0, hz8, rfl, hz⟩ := iz_nat hz9.1
      obtain ⟨q0, hq8, rfl, hq⟩ := iz_nat hq9.1.1
      have hl : lv_has ls 4 [(0, .ref (u 0)), (1, .int (nI z0)), (2, .int (nI q0)), (3, .float v)] := hl
      refine lv_aload_n hx hb dX4_input_50 rfl (lv_at hl 0 rfl) ?_
      refine lv_aload_n hx hb dX4_input_51 rfl (lv_at hl 0 rfl) ?_
      refine va_get (D := D) (ci := 4) (v := .int (nI (sT x))) (C := RX4) (T := TX4) (N := 18) hx hb hts hiX4 hown hK hP 0 rfl rfl 3 (by decide) (hts (.fieldLink RX4 62 "StateKeeperModel" "now" "I") (List.mem_of_getElem? (i := 2) rfl)) (fun _ h9 => h9) rfl dX4_input_52 ?_
      refine lv_iload_n hx hb dX4_input_55 rfl (lv_at hl 1 rfl) ?_
      refine lv_iload_n hx hb dX4_input_56 rfl (lv_at hl 2 rfl) ?_
      refine lv_fload_n hx hb dX4_input_57 rfl (lv_at hl 3 rfl) ?_
      refine lz_cMv0 (lz_runV (C := RX4) (As := [.int (nI (sT x)), .int (nI z0), .int (nI q0), .float v]) (rest := []) hC hS hl (c_X4_put (t := sT x) (a := z0) (q := q0) (v := v) (by omega) hw9) (cwV 4 hts gX4_input_X4_put rfl rfl rfl (by decide +kernel) ⟨Nat.le_of_ble_eq_true rfl, Nat.le_of_ble_eq_true rfl⟩) hP hD (va_recv hK hP (ci := 4) (q0 := 0) rfl rfl) rfl rfl (Nat.le_of_ble_eq_true rfl) dX4_input_58 ⟨Nat.le_of_ble_eq_true rfl, Nat.le_of_ble_eq_true rfl⟩) hD hS hA (fun w1 h => h.ad2 hw9) (fun w1 H locs hpo hP hD hS => ?_)
      have hw8 := hpo
      obtain ⟨r4, r5, r6, g1, g2, g3, g4, m1, m2, hdr2, hrec2, hks2, rfl⟩ := id hw8
      have hP : va_P D vwCl ([((u 0), .inr (4, [.int (nI 0), .int (nI n), .ref (u 1), .int (nI (sT x)), .int (nI ev), .int (sd x), .int (nI R.length), .ref (u 2), .ref (u 3), .ref (u 4), .int (nI ((sL x ++ [(sT x, z0, q0, v)]).length)), .ref (u 5), .ref (u 6), .ref (u 7), .ref (u 8), .int (nI ((sS x).length)), .ref (u 9), .ref (u 10)])), ((u 1), .inl (cF, 256, .inr (.inr (.inl (sc x))))), ((u 2), .inl (cI, 64, .inl r4)), ((u 3), .inl (cI, 64, .inl r5)), ((u 4), .inl (cF, 64, .inr (.inr (.inl r6)))), ((u 5), .inl (cI, 512, .inl g1)), ((u 6), .inl (cI, 512, .inl g2)), ((u 7), .inl (cI, 512, .inl g3)), ((u 8), .inl (cF, 512, .inr (.inr (.inl g4)))), ((u 9), .inl (cI, 16, .inl m1)), ((u 10), .inl (cF, 4096, .inr (.inr (.inl m2))))]) H := hP
      have hD : va_D A ([((u 0), .inr (4, [.int (nI 0), .int (nI n), .ref (u 1), .int (nI (sT x)), .int (nI ev), .int (sd x), .int (nI R.length), .ref (u 2), .ref (u 3), .ref (u 4), .int (nI ((sL x ++ [(sT x, z0, q0, v)]).length)), .ref (u 5), .ref (u 6), .ref (u 7), .ref (u 8), .int (nI ((sS x).length)), .ref (u 9), .ref (u 10)])), ((u 1), .inl (cF, 256, .inr (.inr (.inl (sc x))))), ((u 2), .inl (cI, 64, .inl r4)), ((u 3), .inl (cI, 64, .inl r5)), ((u 4), .inl (cF, 64, .inr (.inr (.inl r6)))), ((u 5), .inl (cI, 512, .inl g1)), ((u 6), .inl (cI, 512, .inl g2)), ((u 7), .inl (cI, 512, .inl g3)), ((u 8), .inl (cF, 512, .inr (.inr (.inl g4)))), ((u 9), .inl (cI, 16, .inl m1)), ((u 10), .inl (cF, 4096, .inr (.inr (.inl m2))))]) := hD
      have hen : rIn n (sL x ++ [(sT x, z0, q0, v)]) := ⟨by rw [List.length_append]; show (sL x).length + 1 ≤ 512; omega, fun y hy => by
        rcases List.mem_append.mp hy with hy | hy
        · exact hL9.2 y hy
        · rw [List.mem_singleton.mp hy]; exact ⟨by show sT x < 2 ^ 30; omega, by show z0 < n; omega, by show q0 ≤ 2; omega, inF_F cN_F cP_F hq9.2⟩⟩
      refine lv_aload_n hx hb dX4_input_61 rfl (lv_at hl 0 rfl) ?_
      refine lv_aload_n hx hb dX4_input_62 rfl (lv_at hl 0 rfl) ?_
      refine va_get (D := D) (ci := 4) (v := .int (nI (sT x))) (C := RX4) (T := TX4) (N := 18) hx hb hts hiX4 hown hK hP 0 rfl rfl 3 (by decide) (hts (.fieldLink RX4 62 "StateKeeperModel" "now" "I") (List.mem_of_getElem? (i := 2) rfl)) (fun _ h9 => h9) rfl dX4_input_63 ?_
      refine vp_callSi (lz_runV (C := RX4) (As := [.int (nI (sT x))]) (rest := []) hC hS hl (c_X4_inputsOf (x := stL x (sL x ++ [(sT x, z0, q0, v)])) hen hw8) (cwV 1 hts gX4_input_X4_inputsOf rfl rfl rfl (by decide +kernel) ⟨Nat.le_of_ble_eq_true rfl, Nat.le_of_ble_eq_true rfl⟩) hP hD (va_recv hK hP (ci := 4) (q0 := 0) rfl rfl) rfl rfl (Nat.le_of_ble_eq_true rfl) dX4_input_66 ⟨Nat.le_of_ble_eq_true rfl, Nat.le_of_ble_eq_true rfl⟩).run (fun r_3 er_3 => ?_)
      subst er_3
      refine lz_i (y := nI (cq (sL x ++ [(sT x, z0, q0, v)]) (sT x : Int))) (by rw [nI_toInt (by omega)]) ?_
      exact W.iret hx hb hr (fun t9 ht9 _ => ⟨⟨_, [((u 0), .inr (4, [.int (nI 0), .int (nI n), .ref (u 1), .int (nI (sT x)), .int (nI ev), .int (sd x), .int (nI R.length), .ref (u 2), .ref (u 3), .ref (u 4), .int (nI ((sL x ++ [(sT x, z0, q0, v)]).length)), .ref (u 5), .ref (u 6), .ref (u 7), .ref (u 8), .int (nI ((sS x).length)), .ref (u 9), .ref (u 10)])), ((u 1), .inl (cF, 256, .inr (.inr (.inl (sc x))))), ((u 2), .inl (cI, 64, .inl r4)), ((u 3), .inl (cI, 64, .inl r5)), ((u 4), .inl (cF, 64, .inr (.inr (.inl r6)))), ((u 5), .inl (cI, 512, .inl g1)), ((u 6), .inl (cI, 512, .inl g2)), ((u 7), .inl (cI, 512, .inl g3)), ((u 8), .inl (cF, 512, .inr (.inr (.inl g4)))), ((u 9), .inl (cI, 16, .inl m1)), ((u 10), .inl (cF, 4096, .inr (.inr (.inl m2))))], rfl, ⟨0, hk9, fun _ => by rw [tn_nI hz8, tn_nI hq8]; exact ⟨rfl, hw8⟩, fun q => absurd rfl q⟩, by show va_P D vwCl _ t9.heap; rw [ht9]; exact hP⟩, hS.F ht9⟩) hS.2.2 dX4_input_69
    · have hk0 : ¬ k9 = 0 := bz_0 hb9 c_2
      refine lv_iconst (v := nI 0) hx hb dX4_input_48 (by decide) ?_
      exact W.iret hx hb hr (fun t9 ht9 _ => ⟨⟨_, w1, rfl, ⟨k9, hk9, fun q => absurd q hk0, fun _ => hw9⟩, by show va_P D vwCl _ t9.heap; rw [ht9]; exact hP⟩, hS.F ht9⟩) hS.2.2 dX4_input_49
  have j2 : ∀ b1 b2 : Int32, bz (kn n z) b1 → bz (okW q v) b2 → W p l e (rmk 3 0 0) s m [.ref (u 0), .int z, .int q, .float v].toArray below meth c s.heap [] 0 0 (MQ below (va_Qi (fun (r : Int32) (w1 : va_W) => ∃ k, cdR (kn n z) (okW q v) (1 + (sL x).length ≤ 512) k ∧ (k = 0 → r = (nI (cq (sL x ++ [(sT x, tn z, tn q, v)]) (sT x : Int))) ∧ WM cI cF u n ev (nI k) R (stL x (sL x ++ [(sT x, tn z, tn q, v)])) w1) ∧ (k ≠ 0 → WM cI cF u n ev (nI k) R x w1)) (fun w1 t => va_P D vwCl w1 t.heap) A) [.ref (u 0), .int z, .int q, .float v].toArray s 0 0 A) (F0 m 27 ls [.int b2, .int b1, .ref (u 0)]) := by
    intro b1 b2 h1 h2
    refine lv_aload_n hx hb dX4_input_27 rfl (lv_at hl 0 rfl) ?_
    refine va_get (D := D) (ci := 4) (v := .int (nI ((sL x).length))) (C := RX4) (T := TX4) (N := 18) hx hb hts hiX4 hown hK hP 0 rfl rfl 10 (by decide) (hts (.fieldLink RX4 65 "StateKeeperModel" "inputs" "I") (List.mem_of_getElem? (i := 1) rfl)) (fun _ h9 => h9) rfl dX4_input_28 ?_
    refine lv_sipush (v := nI 512) hx hb dX4_input_31 (by decide) ?_
    refine lv_icmp_ge (tgt := 41) hx hb dX4_input_34 (by decide) (fun c_4 => ?_) (fun c_4 => ?_)
    · refine lv_iconst (v := nI 0) hx hb dX4_input_41 (by decide) ?_
      exact j3 b1 b2 _ h1 h2 (Or.inr ⟨fun q => absurd ((nI_le_iff (by omega) (by omega)).mp c_4) (by omega), rfl⟩)
    · have e1 : (sL x).length < 512 := by have := mt (nI_le_iff (a := 512) (b := (sL x).length) (by omega) (by omega)).mpr c_4; omega
      refine lv_iconst (v := nI 1) hx hb dX4_input_37 (by decide) ?_
      refine lv_goto (tgt := 42) hx hb dX4_input_38 (by decide) ?_
      exact j3 b1 b2 _ h1 h2 (Or.inl ⟨by omega, rfl⟩)
  have j1 : ∀ b1 : Int32, bz (kn n z) b1 → W p l e (rmk 3 0 0) s m [.ref (u 0), .int z, .int q, .float v].toArray below meth c s.heap [] 0 0 (MQ below (va_Qi (fun (r : Int32) (w1 : va_W) => ∃ k, cdR (kn n z) (okW q v) (1 + (sL x).length ≤ 512) k ∧ (k = 0 → r = (nI (cq (sL x ++ [(sT x, tn z, tn q, v)]) (sT x : Int))) ∧ WM cI cF u n ev (nI k) R (stL x (sL x ++ [(sT x, tn z, tn q, v)])) w1) ∧ (k ≠ 0 → WM cI cF u n ev (nI k) R x w1)) (fun w1 t => va_P D vwCl w1 t.heap) A) [.ref (u 0), .int z, .int q, .float v].toArray s 0 0 A) (F0 m 6 ls [.int b1, .ref (u 0)]) := by
    intro b1 h1
    refine lv_iload_n hx hb dX4_input_6 rfl (lv_at hl 2 rfl) ?_
    refine lv_if_lt (tgt := 26) hx hb dX4_input_7 (by decide) (fun c_5 => ?_) (fun c_5 => ?_)
    · refine lv_iconst (v := nI 0) hx hb dX4_input_26 (by decide) ?_
      exact j2 b1 _ h1 (Or.inr ⟨fun q9 => absurd (iz_lt0.mp c_5) (by omega), rfl⟩)
    · have e1 : 0 ≤ q.toInt := by have := mt iz_lt0.mpr c_5; omega
      refine lv_iload_n hx hb dX4_input_10 rfl (lv_at hl 2 rfl) ?_
      refine lv_iconst (v := nI 2) hx hb dX4_input_11 (by decide) ?_
      refine lv_icmp_gt (tgt := 26) hx hb dX4_input_12 (by decide) (fun c_6 => ?_) (fun c_6 => ?_)
      · refine lv_iconst (v := nI 0) hx hb dX4_input_26 (by decide) ?_
        exact j2 b1 _ h1 (Or.inr ⟨fun q9 => absurd ((iz_lt_l (a := 2) (by omega)).mp c_6) (by omega), rfl⟩)
      · have e2 : q.toInt ≤ 2 := by have := mt (iz_lt_l (a := 2) (by omega)).mpr c_6; omega
        refine lv_fload_n hx hb dX4_input_15 rfl (lv_at hl 3 rfl) ?_
        refine vp_callSi (lz_runS (As := [.float v]) (rest := [.int b1, .ref (u 0)]) hC hS hl (c_X4_within (w := (mW cI cF u n ev th (sT x) (sd x) (sc x) R.length r1 r2 r3 (sL x).length f1 f2 f3 f4 (sS x).length k1 kc))) (va_cwS 1 hts gX4_input_X4_within rfl rfl rfl (by decide +kernel) ⟨Nat.le_of_ble_eq_true rfl, Nat.le_of_ble_eq_true rfl⟩) hP hD rfl rfl (Nat.le_of_ble_eq_true rfl) dX4_input_16 ⟨Nat.le_of_ble_eq_true rfl, Nat.le_of_ble_eq_true rfl⟩).run (fun x3 hx3 => ?_)
        refine lv_if_eq (tgt := 26) hx hb dX4_input_19 (by decide) (fun c_7 => ?_) (fun c_7 => ?_)
        · refine lv_iconst (v := nI 0) hx hb dX4_input_26 (by decide) ?_
          exact j2 b1 _ h1 (Or.inr ⟨fun q9 => bz_0 hx3 c_7 q9.2, rfl⟩)
        · have e3 := bz_1 hx3 c_7
          refine lv_iconst (v := nI 1) hx hb dX4_input_22 (by decide) ?_
          refine lv_goto (tgt := 27) hx hb dX4_input_23 (by decide) ?_
          exact j2 b1 _ h1 (Or.inl ⟨⟨⟨e1, e2⟩, e3⟩, rfl⟩)
  refine lv_aload_n hx hb dX4_input_0 rfl (lv_at hl 0 rfl) ?_
  refine lv_aload_n hx hb dX4_input_1 rfl (lv_at hl 0 rfl) ?_
  refine lv_iload_n hx hb dX4_input_2 rfl (lv_at hl 1 rfl) ?_
  refine vp_callSi (lz_runV (C := RX4) (As := [.int z]) (rest := [.ref (u 0)]) hC hS hl (c_X4_known hw hn9) (cwV 1 hts gX4_input_X4_known rfl rfl rfl (by decide +kernel) ⟨Nat.le_of_ble_eq_true rfl, Nat.le_of_ble_eq_true rfl⟩) hP hD (va_recv hK hP (ci := 4) (q0 := 0) rfl rfl) rfl rfl (Nat.le_of_ble_eq_true rfl) dX4_input_3 ⟨Nat.le_of_ble_eq_true rfl, Nat.le_of_ble_eq_true rfl⟩).run (fun x1 hx1 => ?_)
  exact j1 x1 hx1

set_option maxRecDepth 100000 in
set_option maxHeartbeats 4000000 in
/-- step(times) -/
theorem c_X4_step {z : Int32} (hT1 : sT x + 64 < 2 ^ 29) (hw : WM cI cF u n ev th R x w) (hx0 : Ok n ev R x) : Met l yX4_step wsX4_step (rmk 4 0 0) (pcW l D cI cF cQ aT [.ref (u 0), .int z] w sz) (va_Qi (fun (r : Int32) (w1 : va_W) => ∃ k, cdR (1 ≤ z.toInt ∧ z.toInt ≤ 64) True True k ∧ (k = 0 → r = (nI (sT x + tn z)) ∧ WM cI cF u n ev (nI k) R (stps R ev (tn z) x) w1) ∧ (k ≠ 0 → WM cI cF u n ev (nI k) R x w1)) (fun w1 t => va_P D vwCl w1 t.heap) (va_A w sz)) 0 0 (va_A w sz) := by
  obtain ⟨r1, r2, r3, f1, f2, f3, f4, k1, kc, hdr, hrec, hks, rfl⟩ := id hw
  refine lz_ofM (Qf := fun A => va_Qi (fun (r : Int32) (w1 : va_W) => ∃ k, cdR (1 ≤ z.toInt ∧ z.toInt ≤ 64) True True k ∧ (k = 0 → r = (nI (sT x + tn z)) ∧ WM cI cF u n ev (nI k) R (stps R ev (tn z) x) w1) ∧ (k ≠ 0 → WM cI cF u n ev (nI k) R x w1)) (fun w1 t => va_P D vwCl w1 t.heap) A) (cc := cX4_step) (maxL := 3) (ret := (some .int)) (by decide) rfl (Nat.le_of_ble_eq_true rfl) ?_
  intro p e s m below meth c A hAe hsz hx hb hr hlk hin hC hP hD hS ls hl
  clear hAe
  have hts := hC.1.2.2.2.2
  have hown : s.vm.findClass RX4 = some m.cls := hC.1.2.2.2.1
  have hml := hC.1.2.2.1
  have hA := hC.2.1
  have hK := hC.2.2.2.1
  have hnm := hC.2.2.2.2.1
  have hnf := hC.2.2.2.2.2.1
  have hiX4 : ∀ w ∈ u_ws RX4 TX4 18, w ∈ wsX4_step := fun _ h => List.mem_cons_of_mem _ (List.mem_append_right _ h)
  have hl : lv_has ls 3 [(0, .ref (u 0)), (1, .int z)] := hl
  have hn9 := hx0.1.2
  have hn1 := hx0.1.1
  have hev9 := hx0.2.1
  have hR9 : dIn n R := hx0.2.2.1
  have hcf : cfin (sc x) := hx0.2.2.2.1
  have hT9 : sT x < 2 ^ 29 := hx0.2.2.2.2.1
  have hL9 : rIn n (sL x) := hx0.2.2.2.2.2.1
  have hS9 : sGood (sS x) := hx0.2.2.2.2.2.2.1
  have hL8 := hL9.1
  have hS8 := hS9.2.1
  have hR8 := hR9.1
  have j1 : ∀ b1 : Int32, bz (1 ≤ z.toInt ∧ z.toInt ≤ 64) b1 → W p l e (rmk 4 0 0) s m [.ref (u 0), .int z].toArray below meth c s.heap [] 0 0 (MQ below (va_Qi (fun (r : Int32) (w1 : va_W) => ∃ k, cdR (1 ≤ z.toInt ∧ z.toInt ≤ 64) True True k ∧ (k = 0 → r = (nI (sT x + tn z)) ∧ WM cI cF u n ev (nI k) R (stps R ev (tn z) x) w1) ∧ (k ≠ 0 → WM cI cF u n ev (nI k) R x w1)) (fun w1 t => va_P D vwCl w1 t.heap) A) [.ref (u 0), .int z].toArray s 0 0 A) (F0 m 17 ls [.int b1, .ref (u 0)]) := by
    intro b1 h1
    refine lv_iconst (v := nI 1) hx hb dX4_step_17 (by decide) ?_
    refine lv_iconst (v := nI 1) hx hb dX4_step_18 (by decide) ?_
    refine lz_cMi0 (lz_runV (C := RX4) (As := [.int b1, .int (nI 1), .int (nI 1)]) (rest := []) hC hS hl (c_X4_goes h1 (Or.inl ⟨trivial, rfl⟩ : bz True (nI 1)) (Or.inl ⟨trivial, rfl⟩ : bz True (nI 1)) hw) (cwV 3 hts gX4_step_X4_goes rfl rfl rfl (by decide +kernel) ⟨Nat.le_of_ble_eq_true rfl, Nat.le_of_ble_eq_true rfl⟩) hP hD (va_recv hK hP (ci := 4) (q0 := 0) rfl rfl) rfl rfl (Nat.le_of_ble_eq_true rfl) dX4_step_19 ⟨Nat.le_of_ble_eq_true rfl, Nat.le_of_ble_eq_true rfl⟩) hD hS hA (fun r w1 h => by obtain ⟨k, -, -, h⟩ := h; exact h.ad2 hw) (fun r_1 w1 H locs hpo hP hD hS => ?_)
    obtain ⟨k9, hk9, hb9, hw9⟩ := hpo
    refine lv_if_ne (tgt := 27) hx hb dX4_step_22 (by decide) (fun c_2 => ?_) (fun c_2 => ?_)
    · have hk0 : k9 = 0 := bz_1 hb9 c_2
      subst hk0
      have hpp := cdR_0 hk9 rfl
      obtain ⟨r1, r2, r3, f1, f2, f3, f4, k1, kc, hdr, hrec, hks, rfl⟩ := id hw9
      have hP : va_P D vwCl ([((u 0), .inr (4, [.int (nI 0), .int (nI n), .ref (u 1), .int (nI (sT x)), .int (nI ev), .int (sd x), .int (nI R.length), .ref (u 2), .ref (u 3), .ref (u 4), .int (nI ((sL x).length)), .ref (u 5), .ref (u 6), .ref (u 7), .ref (u 8), .int (nI ((sS x).length)), .ref (u 9), .ref (u 10)])), ((u 1), .inl (cF, 256, .inr (.inr (.inl (sc x))))), ((u 2), .inl (cI, 64, .inl r1)), ((u 3), .inl (cI, 64, .inl r2)), ((u 4), .inl (cF, 64, .inr (.inr (.inl r3)))), ((u 5), .inl (cI, 512, .inl f1)), ((u 6), .inl (cI, 512, .inl f2)), ((u 7), .inl (cI, 512, .inl f3)), ((u 8), .inl (cF, 512, .inr (.inr (.inl f4)))), ((u 9), .inl (cI, 16, .inl k1)), ((u 10), .inl (cF, 4096, .inr (.inr (.inl kc))))]) H := hP
      have hD : va_D A ([((u 0), .inr (4, [.int (nI 0), .int (nI n), .ref (u 1), .int (nI (sT x)), .int (nI ev), .int (sd x), .int (nI R.length), .ref (u 2), .ref (u 3), .ref (u 4), .int (nI ((sL x).length)), .ref (u 5), .ref (u 6), .ref (u 7), .ref (u 8), .int (nI ((sS x).length)), .ref (u 9), .ref (u 10)])), ((u 1), .inl (cF, 256, .inr (.inr (.inl (sc x))))), ((u 2), .inl (cI, 64, .inl r1)), ((u 3), .inl (cI, 64, .inl r2)), ((u 4), .inl (cF, 64, .inr (.inr (.inl r3)))), ((u 5), .inl (cI, 512, .inl f1)), ((u 6), .inl (cI, 512, .inl f2)), ((u 7), .inl (cI, 512, .inl f3)), ((u 8), .inl (cF, 512, .inr (.inr (.inl f4)))), ((u 9), .inl (cI, 16, .inl k1)), ((u 10), .inl (cF, 4096, .inr (.inr (.inl kc))))]) := hD
      obtain ⟨z0, hz8, rfl, hz⟩ := iz_nat (z := z) (by omega)
      have hl : lv_has ls 3 [(0, .ref (u 0)), (1, .int (nI z0))] := hl
      refine lv_iconst (v := nI 0) hx hb dX4_step_27 (by decide) ?_
      refine lv_istore_n (lv' := [(2, .int (nI 0)), (0, .ref (u 0)), (1, .int (nI z0))]) hx hb dX4_step_28 rfl hl (by decide) rfl (fun ls hl => ?_)
      have loop : ∀ (r i : Nat), r + i = z0 → ∀ (y : St) (w : va_W), WM cI cF u n ev (nI 0) R y w → Ok n ev R y → sT y + r < 2 ^ 29 → stps R ev r y = stps R ev z0 x → ∀ (H : Heap) (locs : List Loc) (ls : Array Slot), va_P D vwCl w H → va_D A w → va_S A s.heap H locs → lv_has ls 3 [(2, .int (nI i)), (0, .ref (u 0)), (1, .int (nI z0))] → W p l e (rmk 4 0 0) s m [.ref (u 0), .int (nI z0)].toArray below meth c H locs 0 0 (MQ below (va_Qi (fun (r : Int32) (w1 : va_W) => ∃ k, cdR (1 ≤ (nI z0).toInt ∧ (nI z0).toInt ≤ 64) True True k ∧ (k = 0 → r = (nI (sT x + tn (nI z0))) ∧ WM cI cF u n ev (nI k) R (stps R ev (tn (nI z0)) x) w1) ∧ (k ≠ 0 → WM cI cF u n ev (nI k) R x w1)) (fun w1 t => va_P D vwCl w1 t.heap) A) [.ref (u 0), .int (nI z0)].toArray s 0 0 A) (F0 m 29 ls []) := by
        intro r
        induction r with
        | zero =>
          intro i h1 y w hw hx0 hT he H locs ls hP hD hS hl
          have hl : lv_has ls 3 [(2, .int (nI i)), (0, .ref (u 0)), (1, .int (nI z0))] := hl
          refine lv_iload_n hx hb dX4_step_29 rfl (lv_at hl 0 rfl) ?_
          refine lv_iload_n hx hb dX4_step_30 rfl (lv_at hl 2 rfl) ?_
          refine lv_icmp_ge (tgt := 44) hx hb dX4_step_31 (by decide) (fun c_3 => ?_) (fun c_3 => absurd (nI_le (by omega) (by omega)) c_3)
          obtain ⟨r1, r2, r3, f1, f2, f3, f4, k1, kc, hdr, hrec, hks, rfl⟩ := id hw
          have hP : va_P D vwCl ([((u 0), .inr (4, [.int (nI 0), .int (nI n), .ref (u 1), .int (nI (sT y)), .int (nI ev), .int (sd y), .int (nI R.length), .ref (u 2), .ref (u 3), .ref (u 4), .int (nI ((sL y).length)), .ref (u 5), .ref (u 6), .ref (u 7), .ref (u 8), .int (nI ((sS y).length)), .ref (u 9), .ref (u 10)])), ((u 1), .inl (cF, 256, .inr (.inr (.inl (sc y))))), ((u 2), .inl (cI, 64, .inl r1)), ((u 3), .inl (cI, 64, .inl r2)), ((u 4), .inl (cF, 64, .inr (.inr (.inl r3)))), ((u 5), .inl (cI, 512, .inl f1)), ((u 6), .inl (cI, 512, .inl f2)), ((u 7), .inl (cI, 512, .inl f3)), ((u 8), .inl (cF, 512, .inr (.inr (.inl f4)))), ((u 9), .inl (cI, 16, .inl k1)), ((u 10), .inl (cF, 4096, .inr (.inr (.inl kc))))]) H := hP
          have hD : va_D A ([((u 0), .inr (4, [.int (nI 0), .int (nI n), .ref (u 1), .int (nI (sT y)), .int (nI ev), .int (sd y), .int (nI R.length), .ref (u 2), .ref (u 3), .ref (u 4), .int (nI ((sL y).length)), .ref (u 5), .ref (u 6), .ref (u 7), .ref (u 8), .int (nI ((sS y).length)), .ref (u 9), .ref (u 10)])), ((u 1), .inl (cF, 256, .inr (.inr (.inl (sc y))))), ((u 2), .inl (cI, 64, .inl r1)), ((u 3), .inl (cI, 64, .inl r2)), ((u 4), .inl (cF, 64, .inr (.inr (.inl r3)))), ((u 5), .inl (cI, 512, .inl f1)), ((u 6), .inl (cI, 512, .inl f2)), ((u 7), .inl (cI, 512, .inl f3)), ((u 8), .inl (cF, 512, .inr (.inr (.inl f4)))), ((u 9), .inl (cI, 16, .inl k1)), ((u 10), .inl (cF, 4096, .inr (.inr (.inl kc))))]) := hD
          have hyT : sT y = sT x + z0 := by have h9 : y = stps R ev z0 x := he; rw [h9, stps_T]
          refine lv_aload_n hx hb dX4_step_44 rfl (lv_at hl 1 rfl) ?_
          refine va_get (D := D) (ci := 4) (v := .int (nI (sT y))) (C := RX4) (T := TX4) (N := 18) hx hb hts hiX4 hown hK hP 0 rfl rfl 3 (by decide) (hts (.fieldLink RX4 62 "StateKeeperModel" "now" "I") (List.mem_of_getElem? (i := 1) rfl)) (fun _ h9 => h9) rfl dX4_step_45 ?_
          refine lz_i (y := nI (sT x + z0)) (by rw [hyT]) ?_
          exact W.iret hx hb hr (fun t9 ht9 _ => ⟨⟨_, [((u 0), .inr (4, [.int (nI 0), .int (nI n), .ref (u 1), .int (nI (sT y)), .int (nI ev), .int (sd y), .int (nI R.length), .ref (u 2), .ref (u 3), .ref (u 4), .int (nI ((sL y).length)), .ref (u 5), .ref (u 6), .ref (u 7), .ref (u 8), .int (nI ((sS y).length)), .ref (u 9), .ref (u 10)])), ((u 1), .inl (cF, 256, .inr (.inr (.inl (sc y))))), ((u 2), .inl (cI, 64, .inl r1)), ((u 3), .inl (cI, 64, .inl r2)), ((u 4), .inl (cF, 64, .inr (.inr (.inl r3)))), ((u 5), .inl (cI, 512, .inl f1)), ((u 6), .inl (cI, 512, .inl f2)), ((u 7), .inl (cI, 512, .inl f3)), ((u 8), .inl (cF, 512, .inr (.inr (.inl f4)))), ((u 9), .inl (cI, 16, .inl k1)), ((u 10), .inl (cF, 4096, .inr (.inr (.inl kc))))], rfl, ⟨0, hk9, fun _ => by rw [tn_nI hz8]; exact ⟨rfl, he ▸ hw⟩, fun q => absurd rfl q⟩, by show va_P D vwCl _ t9.heap; rw [ht9]; exact hP⟩, hS.F ht9⟩) hS.2.2 dX4_step_48
        | succ r ih =>
          intro i h1 y w hw hx0 hT he H locs ls hP hD hS hl
          have hl : lv_has ls 3 [(2, .int (nI i)), (0, .ref (u 0)), (1, .int (nI z0))] := hl
          refine lv_iload_n hx hb dX4_step_29 rfl (lv_at hl 0 rfl) ?_
          refine lv_iload_n hx hb dX4_step_30 rfl (lv_at hl 2 rfl) ?_
          refine lv_icmp_ge (tgt := 44) hx hb dX4_step_31 (by decide) (fun c1 => absurd c1 (nI_ge (by omega) (by omega))) (fun c1 => ?_)
          refine lv_aload_n hx hb dX4_step_34 rfl (lv_at hl 1 rfl) ?_
          have hP9 := id hP
          obtain ⟨r1, r2, r3, f1, f2, f3, f4, k1, kc, -, -, -, hw9⟩ := id hw
          rw [hw9] at hP9
          refine lz_cMv0 (lz_runV (C := RX4) (As := []) (rest := []) hC hS hl (c_X4_once hw hx0 (by omega)) (cwV 0 hts gX4_step_X4_once rfl rfl rfl (by decide +kernel) ⟨Nat.le_of_ble_eq_true rfl, Nat.le_of_ble_eq_true rfl⟩) hP hD (va_recv hK hP9 (ci := 4) (q0 := 0) rfl rfl) rfl rfl (Nat.le_of_ble_eq_true rfl) dX4_step_35 ⟨Nat.le_of_ble_eq_true rfl, Nat.le_of_ble_eq_true rfl⟩) hD hS hA (fun w1 h => h.ad2 hw) (fun w1 H locs hpo hP hD hS => ?_)
          have hw8 := hpo
          refine lv_iinc (v := nI (i + 1)) (lv' := [(2, .int (nI (i + 1))), (0, .ref (u 0)), (1, .int (nI z0))]) hx hb dX4_step_38 hl (k := 0) rfl (nI_add _ 1) (by decide) rfl (fun ls hl => ?_)
          refine lv_goto (tgt := 29) hx hb dX4_step_41 (by decide) ?_
          exact ih (i + 1) (by omega) _ w1 hw8 (stp_ok hx0 (by omega)) (by rw [stp_T]; omega) he H locs ls hP hD hS (lv_sub hl [0, 1, 2] rfl)
      exact loop z0 0 (by omega) x _ hw9 hx0 (by omega) rfl H locs ls hP hD hS hl
    · have hk0 : ¬ k9 = 0 := bz_0 hb9 c_2
      refine lv_iconst (v := nI 0) hx hb dX4_step_25 (by decide) ?_
      exact W.iret hx hb hr (fun t9 ht9 _ => ⟨⟨_, w1, rfl, ⟨k9, hk9, fun q => absurd q hk0, fun _ => hw9⟩, by show va_P D vwCl _ t9.heap; rw [ht9]; exact hP⟩, hS.F ht9⟩) hS.2.2 dX4_step_26
  refine lv_aload_n hx hb dX4_step_0 rfl (lv_at hl 0 rfl) ?_
  refine lv_iload_n hx hb dX4_step_1 rfl (lv_at hl 1 rfl) ?_
  refine lv_iconst (v := nI 1) hx hb dX4_step_2 (by decide) ?_
  refine lv_icmp_lt (tgt := 16) hx hb dX4_step_3 (by decide) (fun c_4 => ?_) (fun c_4 => ?_)
  · refine lv_iconst (v := nI 0) hx hb dX4_step_16 (by decide) ?_
    exact j1 _ (Or.inr ⟨fun q => absurd ((iz_lt_r (a := 1) (by omega)).mp c_4) (by omega), rfl⟩)
  · have e1 : 1 ≤ z.toInt := by have := mt (iz_lt_r (a := 1) (by omega)).mpr c_4; omega
    refine lv_iload_n hx hb dX4_step_6 rfl (lv_at hl 1 rfl) ?_
    refine lv_bipush (v := nI 64) hx hb dX4_step_7 (by decide) ?_
    refine lv_icmp_gt (tgt := 16) hx hb dX4_step_9 (by decide) (fun c_5 => ?_) (fun c_5 => ?_)
    · refine lv_iconst (v := nI 0) hx hb dX4_step_16 (by decide) ?_
      exact j1 _ (Or.inr ⟨fun q => absurd ((iz_lt_l (a := 64) (by omega)).mp c_5) (by omega), rfl⟩)
    · have e2 : z.toInt ≤ 64 := by have := mt (iz_lt_l (a := 64) (by omega)).mpr c_5; omega
      refine lv_iconst (v := nI 1) hx hb dX4_step_12 (by decide) ?_
      refine lv_goto (tgt := 17) hx hb dX4_step_13 (by decide) ?_
      exact j1 _ (Or.inl ⟨⟨e1, e2⟩, rfl⟩)

set_option maxRecDepth 100000 in
set_option maxHeartbeats 4000000 in
/-- keep() -/
theorem c_X4_keep  (hw : WM cI cF u n ev th R x w) (hx0 : Ok n ev R x) : Met l yX4_keep wsX4_keep (rmk 3 0 0) (pcW l D cI cF cQ aT [.ref (u 0)] w sz) (va_Qi (fun (r : Int32) (w1 : va_W) => r = nI (sS (kp x)).length ∧ WM cI cF u n ev (nI 0) R (kp x) w1) (fun w1 t => va_P D vwCl w1 t.heap) (va_A w sz)) 0 0 (va_A w sz) := by
  obtain ⟨r1, r2, r3, f1, f2, f3, f4, k1, kc, hdr, hrec, hks, rfl⟩ := id hw
  refine lz_ofM (Qf := fun A => va_Qi (fun (r : Int32) (w1 : va_W) => r = nI (sS (kp x)).length ∧ WM cI cF u n ev (nI 0) R (kp x) w1) (fun w1 t => va_P D vwCl w1 t.heap) A) (cc := cX4_keep) (maxL := 1) (ret := (some .int)) (by decide) rfl (Nat.le_of_ble_eq_true rfl) ?_
  intro p e s m below meth c A hAe hsz hx hb hr hlk hin hC hP hD hS ls hl
  clear hAe
  have hts := hC.1.2.2.2.2
  have hown : s.vm.findClass RX4 = some m.cls := hC.1.2.2.2.1
  have hml := hC.1.2.2.1
  have hA := hC.2.1
  have hK := hC.2.2.2.1
  have hnm := hC.2.2.2.2.1
  have hnf := hC.2.2.2.2.2.1
  have hiX4 : ∀ w ∈ u_ws RX4 TX4 18, w ∈ wsX4_keep := fun _ h => List.mem_cons_of_mem _ (List.mem_append_right _ h)
  have hl : lv_has ls 1 [(0, .ref (u 0))] := hl
  have hn9 := hx0.1.2
  have hn1 := hx0.1.1
  have hev9 := hx0.2.1
  have hR9 : dIn n R := hx0.2.2.1
  have hcf : cfin (sc x) := hx0.2.2.2.1
  have hT9 : sT x < 2 ^ 29 := hx0.2.2.2.2.1
  have hL9 : rIn n (sL x) := hx0.2.2.2.2.2.1
  have hS9 : sGood (sS x) := hx0.2.2.2.2.2.2.1
  have hL8 := hL9.1
  have hS8 := hS9.2.1
  have hR8 := hR9.1
  refine lv_aload_n hx hb dX4_keep_0 rfl (lv_at hl 0 rfl) ?_
  refine lv_iconst (v := nI 0) hx hb dX4_keep_1 (by decide) ?_
  refine va_put (D := D) (ci := 4) (v := .int (nI 0)) (ty := .int) (C := RX4) (T := TX4) (N := 18) hx hb hts hiX4 tyX4 tyX4_ok nmX4 hown hK hP hD hS 0 rfl rfl 0 (by decide) (hts (.fieldLink RX4 48 "StateKeeperModel" "thrown" "I") (List.mem_of_getElem? (i := 1) rfl)) (fun _ h9 => h9) rfl (by decide +kernel) rfl rfl (Nat.le_of_ble_eq_true rfl) dX4_keep_2 (fun H locs hP hD hS => ?_)
  have hP : va_P D vwCl ([((u 0), .inr (4, [.int (nI 0), .int (nI n), .ref (u 1), .int (nI (sT x)), .int (nI ev), .int (sd x), .int (nI R.length), .ref (u 2), .ref (u 3), .ref (u 4), .int (nI ((sL x).length)), .ref (u 5), .ref (u 6), .ref (u 7), .ref (u 8), .int (nI ((sS x).length)), .ref (u 9), .ref (u 10)])), ((u 1), .inl (cF, 256, .inr (.inr (.inl (sc x))))), ((u 2), .inl (cI, 64, .inl r1)), ((u 3), .inl (cI, 64, .inl r2)), ((u 4), .inl (cF, 64, .inr (.inr (.inl r3)))), ((u 5), .inl (cI, 512, .inl f1)), ((u 6), .inl (cI, 512, .inl f2)), ((u 7), .inl (cI, 512, .inl f3)), ((u 8), .inl (cF, 512, .inr (.inr (.inl f4)))), ((u 9), .inl (cI, 16, .inl k1)), ((u 10), .inl (cF, 4096, .inr (.inr (.inl kc))))]) H := hP
  have hD : va_D A ([((u 0), .inr (4, [.int (nI 0), .int (nI n), .ref (u 1), .int (nI (sT x)), .int (nI ev), .int (sd x), .int (nI R.length), .ref (u 2), .ref (u 3), .ref (u 4), .int (nI ((sL x).length)), .ref (u 5), .ref (u 6), .ref (u 7), .ref (u 8), .int (nI ((sS x).length)), .ref (u 9), .ref (u 10)])), ((u 1), .inl (cF, 256, .inr (.inr (.inl (sc x))))), ((u 2), .inl (cI, 64, .inl r1)), ((u 3), .inl (cI, 64, .inl r2)), ((u 4), .inl (cF, 64, .inr (.inr (.inl r3)))), ((u 5), .inl (cI, 512, .inl f1)), ((u 6), .inl (cI, 512, .inl f2)), ((u 7), .inl (cI, 512, .inl f3)), ((u 8), .inl (cF, 512, .inr (.inr (.inl f4)))), ((u 9), .inl (cI, 16, .inl k1)), ((u 10), .inl (cF, 4096, .inr (.inr (.inl kc))))]) := hD
  refine lv_aload_n hx hb dX4_keep_5 rfl (lv_at hl 0 rfl) ?_
  have hw9 : WM cI cF u n ev (nI 0) R x ([((u 0), .inr (4, [.int (nI 0), .int (nI n), .ref (u 1), .int (nI (sT x)), .int (nI ev), .int (sd x), .int (nI R.length), .ref (u 2), .ref (u 3), .ref (u 4), .int (nI ((sL x).length)), .ref (u 5), .ref (u 6), .ref (u 7), .ref (u 8), .int (nI ((sS x).length)), .ref (u 9), .ref (u 10)])), ((u 1), .inl (cF, 256, .inr (.inr (.inl (sc x))))), ((u 2), .inl (cI, 64, .inl r1)), ((u 3), .inl (cI, 64, .inl r2)), ((u 4), .inl (cF, 64, .inr (.inr (.inl r3)))), ((u 5), .inl (cI, 512, .inl f1)), ((u 6), .inl (cI, 512, .inl f2)), ((u 7), .inl (cI, 512, .inl f3)), ((u 8), .inl (cF, 512, .inr (.inr (.inl f4)))), ((u 9), .inl (cI, 16, .inl k1)), ((u 10), .inl (cF, 4096, .inr (.inr (.inl kc))))]) := ⟨_, _, _, _, _, _, _, _, _, hdr, hrec, hks, rfl⟩
  refine lz_cMv0 (lz_runV (C := RX4) (As := []) (rest := []) hC hS hl (c_X4_keepNow hS9 hL9 hn9 hT9 hw9) (cwV 0 hts gX4_keep_X4_keepNow rfl rfl rfl (by decide +kernel) ⟨Nat.le_of_ble_eq_true rfl, Nat.le_of_ble_eq_true rfl⟩) hP hD (va_recv hK hP (ci := 4) (q0 := 0) rfl rfl) rfl rfl (Nat.le_of_ble_eq_true rfl) dX4_keep_6 ⟨Nat.le_of_ble_eq_true rfl, Nat.le_of_ble_eq_true rfl⟩) hD hS hA (fun w1 h => h.ad2 hw9) (fun w1 H locs hpo hP hD hS => ?_)
  have hw8 := hpo
  obtain ⟨r4, r5, r6, g1, g2, g3, g4, m1, m2, hdr2, hrec2, hks2, rfl⟩ := id hw8
  have hP : va_P D vwCl ([((u 0), .inr (4, [.int (nI 0), .int (nI n), .ref (u 1), .int (nI (sT (kp x))), .int (nI ev), .int (sd (kp x)), .int (nI R.length), .ref (u 2), .ref (u 3), .ref (u 4), .int (nI ((sL (kp x)).length)), .ref (u 5), .ref (u 6), .ref (u 7), .ref (u 8), .int (nI ((sS (kp x)).length)), .ref (u 9), .ref (u 10)])), ((u 1), .inl (cF, 256, .inr (.inr (.inl (sc (kp x)))))), ((u 2), .inl (cI, 64, .inl r4)), ((u 3), .inl (cI, 64, .inl r5)), ((u 4), .inl (cF, 64, .inr (.inr (.inl r6)))), ((u 5), .inl (cI, 512, .inl g1)), ((u 6), .inl (cI, 512, .inl g2)), ((u 7), .inl (cI, 512, .inl g3)), ((u 8), .inl (cF, 512, .inr (.inr (.inl g4)))), ((u 9), .inl (cI, 16, .inl m1)), ((u 10), .inl (cF, 4096, .inr (.inr (.inl m2))))]) H := hP
  have hD : va_D A ([((u 0), .inr (4, [.int (nI 0), .int (nI n), .ref (u 1), .int (nI (sT (kp x))), .int (nI ev), .int (sd (kp x)), .int (nI R.length), .ref (u 2), .ref (u 3), .ref (u 4), .int (nI ((sL (kp x)).length)), .ref (u 5), .ref (u 6), .ref (u 7), .ref (u 8), .int (nI ((sS (kp x)).length)), .ref (u 9), .ref (u 10)])), ((u 1), .inl (cF, 256, .inr (.inr (.inl (sc (kp x)))))), ((u 2), .inl (cI, 64, .inl r4)), ((u 3), .inl (cI, 64, .inl r5)), ((u 4), .inl (cF, 64, .inr (.inr (.inl r6)))), ((u 5), .inl (cI, 512, .inl g1)), ((u 6), .inl (cI, 512, .inl g2)), ((u 7), .inl (cI, 512, .inl g3)), ((u 8), .inl (cF, 512, .inr (.inr (.inl g4)))), ((u 9), .inl (cI, 16, .inl m1)), ((u 10), .inl (cF, 4096, .inr (.inr (.inl m2))))]) := hD
  refine lv_aload_n hx hb dX4_keep_9 rfl (lv_at hl 0 rfl) ?_
  refine va_get (D := D) (ci := 4) (v := .int (nI ((sS (kp x)).length))) (C := RX4) (T := TX4) (N := 18) hx hb hts hiX4 hown hK hP 0 rfl rfl 15 (by decide) (hts (.fieldLink RX4 101 "StateKeeperModel" "snapshots" "I") (List.mem_of_getElem? (i := 2) rfl)) (fun _ h9 => h9) rfl dX4_keep_10 ?_
  exact W.iret hx hb hr (fun t9 ht9 _ => ⟨⟨_, [((u 0), .inr (4, [.int (nI 0), .int (nI n), .ref (u 1), .int (nI (sT (kp x))), .int (nI ev), .int (sd (kp x)), .int (nI R.length), .ref (u 2), .ref (u 3), .ref (u 4), .int (nI ((sL (kp x)).length)), .ref (u 5), .ref (u 6), .ref (u 7), .ref (u 8), .int (nI ((sS (kp x)).length)), .ref (u 9), .ref (u 10)])), ((u 1), .inl (cF, 256, .inr (.inr (.inl (sc (kp x)))))), ((u 2), .inl (cI, 64, .inl r4)), ((u 3), .inl (cI, 64, .inl r5)), ((u 4), .inl (cF, 64, .inr (.inr (.inl r6)))), ((u 5), .inl (cI, 512, .inl g1)), ((u 6), .inl (cI, 512, .inl g2)), ((u 7), .inl (cI, 512, .inl g3)), ((u 8), .inl (cF, 512, .inr (.inr (.inl g4)))), ((u 9), .inl (cI, 16, .inl m1)), ((u 10), .inl (cF, 4096, .inr (.inr (.inl m2))))], rfl, ⟨rfl, hw8⟩, by show va_P D vwCl _ t9.heap; rw [ht9]; exact hP⟩, hS.F ht9⟩) hS.2.2 dX4_keep_13

set_option maxRecDepth 100000 in
set_option maxHeartbeats 4000000 in
/-- back(step) -/
theorem c_X4_back {z : Int32} (hw : WM cI cF u n ev th R x w) (hx0 : Ok n ev R x) : Met l yX4_back wsX4_back (rmk 3 0 0) (pcW l D cI cF cQ aT [.ref (u 0), .int z] w sz) (va_Qi (fun (r : Int32) (w1 : va_W) => ∃ k, cdR (plc (sS x) z.toInt ≠ none) True True k ∧ (k = 0 → r = (bkv (sS x) z.toInt) ∧ WM cI cF u n ev (nI k) R (gbz n x z.toInt) w1) ∧ (k ≠ 0 → WM cI cF u n ev (nI k) R x w1)) (fun w1 t => va_P D vwCl w1 t.heap) (va_A w sz)) 0 0 (va_A w sz) := by
  obtain ⟨r1, r2, r3, f1, f2, f3, f4, k1, kc, hdr, hrec, hks, rfl⟩ := id hw
  refine lz_ofM (Qf := fun A => va_Qi (fun (r : Int32) (w1 : va_W) => ∃ k, cdR (plc (sS x) z.toInt ≠ none) True True k ∧ (k = 0 → r = (bkv (sS x) z.toInt) ∧ WM cI cF u n ev (nI k) R (gbz n x z.toInt) w1) ∧ (k ≠ 0 → WM cI cF u n ev (nI k) R x w1)) (fun w1 t => va_P D vwCl w1 t.heap) A) (cc := cX4_back) (maxL := 3) (ret := (some .int)) (by decide) rfl (Nat.le_of_ble_eq_true rfl) ?_
  intro p e s m below meth c A hAe hsz hx hb hr hlk hin hC hP hD hS ls hl
  clear hAe
  have hts := hC.1.2.2.2.2
  have hown : s.vm.findClass RX4 = some m.cls := hC.1.2.2.2.1
  have hml := hC.1.2.2.1
  have hA := hC.2.1
  have hK := hC.2.2.2.1
  have hnm := hC.2.2.2.2.1
  have hnf := hC.2.2.2.2.2.1
  have hiX4 : ∀ w ∈ u_ws RX4 TX4 18, w ∈ wsX4_back := fun _ h => List.mem_cons_of_mem _ (List.mem_append_right _ h)
  have hl : lv_has ls 3 [(0, .ref (u 0)), (1, .int z)] := hl
  have hn9 := hx0.1.2
  have hn1 := hx0.1.1
  have hev9 := hx0.2.1
  have hR9 : dIn n R := hx0.2.2.1
  have hcf : cfin (sc x) := hx0.2.2.2.1
  have hT9 : sT x < 2 ^ 29 := hx0.2.2.2.2.1
  have hL9 : rIn n (sL x) := hx0.2.2.2.2.2.1
  have hS9 : sGood (sS x) := hx0.2.2.2.2.2.2.1
  have hL8 := hL9.1
  have hS8 := hS9.2.1
  have hR8 := hR9.1
  refine lv_aload_n hx hb dX4_back_0 rfl (lv_at hl 0 rfl) ?_
  refine lv_iload_n hx hb dX4_back_1 rfl (lv_at hl 1 rfl) ?_
  refine vp_callSi (lz_runV (C := RX4) (As := [.int z]) (rest := []) hC hS hl (c_X4_placeOf hS9 hw) (cwV 1 hts gX4_back_X4_placeOf rfl rfl rfl (by decide +kernel) ⟨Nat.le_of_ble_eq_true rfl, Nat.le_of_ble_eq_true rfl⟩) hP hD (va_recv hK hP (ci := 4) (q0 := 0) rfl rfl) rfl rfl (Nat.le_of_ble_eq_true rfl) dX4_back_2 ⟨Nat.le_of_ble_eq_true rfl, Nat.le_of_ble_eq_true rfl⟩).run (fun r_1 er_1 => ?_)
  subst er_1
  rcases opt_or (plc (sS x) z.toInt) with hpl | ⟨j, hpl⟩
  · refine lz_i (y := -1) (by rw [hpl]; rfl) ?_
    refine lv_istore_n (lv' := [(2, .int (-1)), (0, .ref (u 0)), (1, .int z)]) hx hb dX4_back_5 rfl hl (by decide) rfl (fun ls hl => ?_)
    refine lv_aload_n hx hb dX4_back_6 rfl (lv_at hl 1 rfl) ?_
    refine lv_iload_n hx hb dX4_back_7 rfl (lv_at hl 0 rfl) ?_
    refine lv_if_lt (tgt := 15) hx hb dX4_back_8 (by decide) (fun c_2 => ?_) (fun c_2 => absurd (by decide) c_2)
    refine lv_iconst (v := nI 0) hx hb dX4_back_15 (by decide) ?_
    refine lv_iconst (v := nI 1) hx hb dX4_back_16 (by decide) ?_
    refine lv_iconst (v := nI 1) hx hb dX4_back_17 (by decide) ?_
    refine lz_cMi0 (lz_runV (C := RX4) (As := [.int (nI 0), .int (nI 1), .int (nI 1)]) (rest := []) hC hS hl (c_X4_goes (Or.inr ⟨fun q => q hpl, rfl⟩ : bz (plc (sS x) z.toInt ≠ none) (nI 0)) (Or.inl ⟨trivial, rfl⟩ : bz True (nI 1)) (Or.inl ⟨trivial, rfl⟩ : bz True (nI 1)) hw) (cwV 3 hts gX4_back_X4_goes rfl rfl rfl (by decide +kernel) ⟨Nat.le_of_ble_eq_true rfl, Nat.le_of_ble_eq_true rfl⟩) hP hD (va_recv hK hP (ci := 4) (q0 := 0) rfl rfl) rfl rfl (Nat.le_of_ble_eq_true rfl) dX4_back_18 ⟨Nat.le_of_ble_eq_true rfl, Nat.le_of_ble_eq_true rfl⟩) hD hS hA (fun r w1 h => by obtain ⟨k, -, -, h⟩ := h; exact h.ad2 hw) (fun r_3 w1 H locs hpo hP hD hS => ?_)
    obtain ⟨k9, hk9, hb9, hw9⟩ := hpo
    refine lv_if_eq (tgt := 32) hx hb dX4_back_21 (by decide) (fun c_4 => ?_) (fun c_4 => ?_)
    · have hk0 : ¬ k9 = 0 := bz_0 hb9 c_4
      refine lv_iconst (v := nI 0) hx hb dX4_back_32 (by decide) ?_
      exact W.iret hx hb hr (fun t9 ht9 _ => ⟨⟨_, w1, rfl, ⟨k9, hk9, fun q => absurd q hk0, fun _ => hw9⟩, by show va_P D vwCl _ t9.heap; rw [ht9]; exact hP⟩, hS.F ht9⟩) hS.2.2 dX4_back_33
    · exact absurd hpl (cdR_0 hk9 (bz_1 hb9 c_4)).1
  · refine lz_i (y := nI j) (by rw [hpl]; rfl) ?_
    obtain ⟨ee, hj, hez, hsg⟩ := plc_get hpl
    have hjl : j < (sS x).length := (List.getElem?_eq_some_iff.mp hj).1
    refine lv_istore_n (lv' := [(2, .int (nI j)), (0, .ref (u 0)), (1, .int z)]) hx hb dX4_back_5 rfl hl (by decide) rfl (fun ls hl => ?_)
    refine lv_aload_n hx hb dX4_back_6 rfl (lv_at hl 1 rfl) ?_
    refine lv_iload_n hx hb dX4_back_7 rfl (lv_at hl 0 rfl) ?_
    refine lv_if_lt (tgt := 15) hx hb dX4_back_8 (by decide) (fun c_5 => absurd c_5 (fun q => absurd (iz_lt0.mp q) (by rw [nI_toInt (by omega)]; omega))) (fun c_5 => ?_)
    refine lv_iconst (v := nI 1) hx hb dX4_back_11 (by decide) ?_
    refine lv_goto (tgt := 16) hx hb dX4_back_12 (by decide) ?_
    refine lv_iconst (v := nI 1) hx hb dX4_back_16 (by decide) ?_
    refine lv_iconst (v := nI 1) hx hb dX4_back_17 (by decide) ?_
    refine lz_cMi0 (lz_runV (C := RX4) (As := [.int (nI 1), .int (nI 1), .int (nI 1)]) (rest := []) hC hS hl (c_X4_goes (Or.inl ⟨by rw [hpl]; exact Option.some_ne_none j, rfl⟩ : bz (plc (sS x) z.toInt ≠ none) (nI 1)) (Or.inl ⟨trivial, rfl⟩ : bz True (nI 1)) (Or.inl ⟨trivial, rfl⟩ : bz True (nI 1)) hw) (cwV 3 hts gX4_back_X4_goes rfl rfl rfl (by decide +kernel) ⟨Nat.le_of_ble_eq_true rfl, Nat.le_of_ble_eq_true rfl⟩) hP hD (va_recv hK hP (ci := 4) (q0 := 0) rfl rfl) rfl rfl (Nat.le_of_ble_eq_true rfl) dX4_back_18 ⟨Nat.le_of_ble_eq_true rfl, Nat.le_of_ble_eq_true rfl⟩) hD hS hA (fun r w1 h => by obtain ⟨k, -, -, h⟩ := h; exact h.ad2 hw) (fun r_6 w1 H locs hpo hP hD hS => ?_)
    obtain ⟨k9, hk9, hb9, hw9⟩ := hpo
    refine lv_if_eq (tgt := 32) hx hb dX4_back_21 (by decide) (fun c_7 => ?_) (fun c_7 => ?_)
    · have hk0 : ¬ k9 = 0 := bz_0 hb9 c_7
      refine lv_iconst (v := nI 0) hx hb dX4_back_32 (by decide) ?_
      exact W.iret hx hb hr (fun t9 ht9 _ => ⟨⟨_, w1, rfl, ⟨k9, hk9, fun q => absurd q hk0, fun _ => hw9⟩, by show va_P D vwCl _ t9.heap; rw [ht9]; exact hP⟩, hS.F ht9⟩) hS.2.2 dX4_back_33
    · have hk0 : k9 = 0 := bz_1 hb9 c_7
      subst hk0
      have hpp := cdR_0 hk9 rfl
      obtain ⟨r1, r2, r3, f1, f2, f3, f4, k1, kc, hdr, hrec, hks, rfl⟩ := id hw9
      have hP : va_P D vwCl ([((u 0), .inr (4, [.int (nI 0), .int (nI n), .ref (u 1), .int (nI (sT x)), .int (nI ev), .int (sd x), .int (nI R.length), .ref (u 2), .ref (u 3), .ref (u 4), .int (nI ((sL x).length)), .ref (u 5), .ref (u 6), .ref (u 7), .ref (u 8), .int (nI ((sS x).length)), .ref (u 9), .ref (u 10)])), ((u 1), .inl (cF, 256, .inr (.inr (.inl (sc x))))), ((u 2), .inl (cI, 64, .inl r1)), ((u 3), .inl (cI, 64, .inl r2)), ((u 4), .inl (cF, 64, .inr (.inr (.inl r3)))), ((u 5), .inl (cI, 512, .inl f1)), ((u 6), .inl (cI, 512, .inl f2)), ((u 7), .inl (cI, 512, .inl f3)), ((u 8), .inl (cF, 512, .inr (.inr (.inl f4)))), ((u 9), .inl (cI, 16, .inl k1)), ((u 10), .inl (cF, 4096, .inr (.inr (.inl kc))))]) H := hP
      have hD : va_D A ([((u 0), .inr (4, [.int (nI 0), .int (nI n), .ref (u 1), .int (nI (sT x)), .int (nI ev), .int (sd x), .int (nI R.length), .ref (u 2), .ref (u 3), .ref (u 4), .int (nI ((sL x).length)), .ref (u 5), .ref (u 6), .ref (u 7), .ref (u 8), .int (nI ((sS x).length)), .ref (u 9), .ref (u 10)])), ((u 1), .inl (cF, 256, .inr (.inr (.inl (sc x))))), ((u 2), .inl (cI, 64, .inl r1)), ((u 3), .inl (cI, 64, .inl r2)), ((u 4), .inl (cF, 64, .inr (.inr (.inl r3)))), ((u 5), .inl (cI, 512, .inl f1)), ((u 6), .inl (cI, 512, .inl f2)), ((u 7), .inl (cI, 512, .inl f3)), ((u 8), .inl (cF, 512, .inr (.inr (.inl f4)))), ((u 9), .inl (cI, 16, .inl k1)), ((u 10), .inl (cF, 4096, .inr (.inr (.inl kc))))]) := hD
      refine lv_aload_n hx hb dX4_back_24 rfl (lv_at hl 1 rfl) ?_
      refine lv_iload_n hx hb dX4_back_25 rfl (lv_at hl 0 rfl) ?_
      refine lz_cMi0 (lz_runV (C := RX4) (As := [.int (nI j)]) (rest := []) hC hS hl (c_X4_goBack hj hS8 hn9 hw9) (cwV 1 hts gX4_back_X4_goBack rfl rfl rfl (by decide +kernel) ⟨Nat.le_of_ble_eq_true rfl, Nat.le_of_ble_eq_true rfl⟩) hP hD (va_recv hK hP (ci := 4) (q0 := 0) rfl rfl) rfl rfl (Nat.le_of_ble_eq_true rfl) dX4_back_26 ⟨Nat.le_of_ble_eq_true rfl, Nat.le_of_ble_eq_true rfl⟩) hD hS hA (fun r w1 h => h.2.ad2 hw9) (fun r_8 w1 H locs hpo hP hD hS => ?_)
      obtain ⟨rfl, hw8⟩ := hpo
      refine lv_goto (tgt := 33) hx hb dX4_back_29 (by decide) ?_
      exact W.iret hx hb hr (fun t9 ht9 _ => ⟨⟨_, w1, rfl, ⟨0, hk9, fun _ => ⟨by unfold bkv; rw [hpl]; rfl, by rw [gbz_get hpl hj]; exact hw8⟩, fun q => absurd rfl q⟩, by show va_P D vwCl _ t9.heap; rw [ht9]; exact hP⟩, hS.F ht9⟩) hS.2.2 dX4_back_33

set_option maxRecDepth 100000 in
set_option maxHeartbeats 4000000 in
/-- forget(step) -/
theorem c_X4_forget {z : Int32} (hw : WM cI cF u n ev th R x w) (hx0 : Ok n ev R x) : Met l yX4_forget wsX4_forget (rmk 3 0 0) (pcW l D cI cF cQ aT [.ref (u 0), .int z] w sz) (va_Qi (fun (r : Int32) (w1 : va_W) => ∃ k, cdR ((sT x : Int) ≤ z.toInt) True True k ∧ (k = 0 → r = (nI ((sL x).length - cb (sL x) z.toInt)) ∧ WM cI cF u n ev (nI k) R (stL x ((sL x).filter (fun e => decide ((e.1 : Int) < z.toInt)))) w1) ∧ (k ≠ 0 → WM cI cF u n ev (nI k) R x w1)) (fun w1 t => va_P D vwCl w1 t.heap) (va_A w sz)) 0 0 (va_A w sz) := by
  obtain ⟨r1, r2, r3, f1, f2, f3, f4, k1, kc, hdr, hrec, hks, rfl⟩ := id hw
  refine lz_ofM (Qf := fun A => va_Qi (fun (r : Int32) (w1 : va_W) => ∃ k, cdR ((sT x : Int) ≤ z.toInt) True True k ∧ (k = 0 → r = (nI ((sL x).length - cb (sL x) z.toInt)) ∧ WM cI cF u n ev (nI k) R (stL x ((sL x).filter (fun e => decide ((e.1 : Int) < z.toInt)))) w1) ∧ (k ≠ 0 → WM cI cF u n ev (nI k) R x w1)) (fun w1 t => va_P D vwCl w1 t.heap) A) (cc := cX4_forget) (maxL := 2) (ret := (some .int)) (by decide) rfl (Nat.le_of_ble_eq_true rfl) ?_
  intro p e s m below meth c A hAe hsz hx hb hr hlk hin hC hP hD hS ls hl
  clear hAe
  have hts := hC.1.2.2.2.2
  have hown : s.vm.findClass RX4 = some m.cls := hC.1.2.2.2.1
  have hml := hC.1.2.2.1
  have hA := hC.2.1
  have hK := hC.2.2.2.1
  have hnm := hC.2.2.2.2.1
  have hnf := hC.2.2.2.2.2.1
  have hiX4 : ∀ w ∈ u_ws RX4 TX4 18, w ∈ wsX4_forget := fun _ h => List.mem_cons_of_mem _ (List.mem_append_right _ h)
  have hl : lv_has ls 2 [(0, .ref (u 0)), (1, .int z)] := hl
  have hn9 := hx0.1.2
  have hn1 := hx0.1.1
  have hev9 := hx0.2.1
  have hR9 : dIn n R := hx0.2.2.1
  have hcf : cfin (sc x) := hx0.2.2.2.1
  have hT9 : sT x < 2 ^ 29 := hx0.2.2.2.2.1
  have hL9 : rIn n (sL x) := hx0.2.2.2.2.2.1
  have hS9 : sGood (sS x) := hx0.2.2.2.2.2.2.1
  have hL8 := hL9.1
  have hS8 := hS9.2.1
  have hR8 := hR9.1
  have j1 : ∀ b1 : Int32, bz ((sT x : Int) ≤ z.toInt) b1 → W p l e (rmk 3 0 0) s m [.ref (u 0), .int z].toArray below meth c s.heap [] 0 0 (MQ below (va_Qi (fun (r : Int32) (w1 : va_W) => ∃ k, cdR ((sT x : Int) ≤ z.toInt) True True k ∧ (k = 0 → r = (nI ((sL x).length - cb (sL x) z.toInt)) ∧ WM cI cF u n ev (nI k) R (stL x ((sL x).filter (fun e => decide ((e.1 : Int) < z.toInt)))) w1) ∧ (k ≠ 0 → WM cI cF u n ev (nI k) R x w1)) (fun w1 t => va_P D vwCl w1 t.heap) A) [.ref (u 0), .int z].toArray s 0 0 A) (F0 m 14 ls [.int b1, .ref (u 0)]) := by
    intro b1 h1
    refine lv_iconst (v := nI 1) hx hb dX4_forget_14 (by decide) ?_
    refine lv_iconst (v := nI 1) hx hb dX4_forget_15 (by decide) ?_
    refine lz_cMi0 (lz_runV (C := RX4) (As := [.int b1, .int (nI 1), .int (nI 1)]) (rest := []) hC hS hl (c_X4_goes h1 (Or.inl ⟨trivial, rfl⟩ : bz True (nI 1)) (Or.inl ⟨trivial, rfl⟩ : bz True (nI 1)) hw) (cwV 3 hts gX4_forget_X4_goes rfl rfl rfl (by decide +kernel) ⟨Nat.le_of_ble_eq_true rfl, Nat.le_of_ble_eq_true rfl⟩) hP hD (va_recv hK hP (ci := 4) (q0 := 0) rfl rfl) rfl rfl (Nat.le_of_ble_eq_true rfl) dX4_forget_16 ⟨Nat.le_of_ble_eq_true rfl, Nat.le_of_ble_eq_true rfl⟩) hD hS hA (fun r w1 h => by obtain ⟨k, -, -, h⟩ := h; exact h.ad2 hw) (fun r_1 w1 H locs hpo hP hD hS => ?_)
    obtain ⟨k9, hk9, hb9, hw9⟩ := hpo
    refine lv_if_eq (tgt := 32) hx hb dX4_forget_19 (by decide) (fun c_2 => ?_) (fun c_2 => ?_)
    · have hk0 : ¬ k9 = 0 := bz_0 hb9 c_2
      refine lv_iconst (v := nI 0) hx hb dX4_forget_32 (by decide) ?_
      exact W.iret hx hb hr (fun t9 ht9 _ => ⟨⟨_, w1, rfl, ⟨k9, hk9, fun q => absurd q hk0, fun _ => hw9⟩, by show va_P D vwCl _ t9.heap; rw [ht9]; exact hP⟩, hS.F ht9⟩) hS.2.2 dX4_forget_33
    · have hk0 : k9 = 0 := bz_1 hb9 c_2
      subst hk0
      have hpp := cdR_0 hk9 rfl
      obtain ⟨r1, r2, r3, f1, f2, f3, f4, k1, kc, hdr, hrec, hks, rfl⟩ := id hw9
      have hP : va_P D vwCl ([((u 0), .inr (4, [.int (nI 0), .int (nI n), .ref (u 1), .int (nI (sT x)), .int (nI ev), .int (sd x), .int (nI R.length), .ref (u 2), .ref (u 3), .ref (u 4), .int (nI ((sL x).length)), .ref (u 5), .ref (u 6), .ref (u 7), .ref (u 8), .int (nI ((sS x).length)), .ref (u 9), .ref (u 10)])), ((u 1), .inl (cF, 256, .inr (.inr (.inl (sc x))))), ((u 2), .inl (cI, 64, .inl r1)), ((u 3), .inl (cI, 64, .inl r2)), ((u 4), .inl (cF, 64, .inr (.inr (.inl r3)))), ((u 5), .inl (cI, 512, .inl f1)), ((u 6), .inl (cI, 512, .inl f2)), ((u 7), .inl (cI, 512, .inl f3)), ((u 8), .inl (cF, 512, .inr (.inr (.inl f4)))), ((u 9), .inl (cI, 16, .inl k1)), ((u 10), .inl (cF, 4096, .inr (.inr (.inl kc))))]) H := hP
      have hD : va_D A ([((u 0), .inr (4, [.int (nI 0), .int (nI n), .ref (u 1), .int (nI (sT x)), .int (nI ev), .int (sd x), .int (nI R.length), .ref (u 2), .ref (u 3), .ref (u 4), .int (nI ((sL x).length)), .ref (u 5), .ref (u 6), .ref (u 7), .ref (u 8), .int (nI ((sS x).length)), .ref (u 9), .ref (u 10)])), ((u 1), .inl (cF, 256, .inr (.inr (.inl (sc x))))), ((u 2), .inl (cI, 64, .inl r1)), ((u 3), .inl (cI, 64, .inl r2)), ((u 4), .inl (cF, 64, .inr (.inr (.inl r3)))), ((u 5), .inl (cI, 512, .inl f1)), ((u 6), .inl (cI, 512, .inl f2)), ((u 7), .inl (cI, 512, .inl f3)), ((u 8), .inl (cF, 512, .inr (.inr (.inl f4)))), ((u 9), .inl (cI, 16, .inl k1)), ((u 10), .inl (cF, 4096, .inr (.inr (.inl kc))))]) := hD
      refine lv_aload_n hx hb dX4_forget_22 rfl (lv_at hl 0 rfl) ?_
      refine lv_iload_n hx hb dX4_forget_23 rfl (lv_at hl 1 rfl) ?_
      refine lv_ldc (v := 2147483647) hx hb hown (hts (.constant RX4 117 (2147483647)) (List.mem_of_getElem? (i := 2) rfl)) dX4_forget_24 ?_
      refine lz_cMi0 (lz_runV (C := RX4) (As := [.int z, .int (2147483647)]) (rest := []) hC hS hl (c_X4_drop hL9 hw9) (cwV 2 hts gX4_forget_X4_drop rfl rfl rfl (by decide +kernel) ⟨Nat.le_of_ble_eq_true rfl, Nat.le_of_ble_eq_true rfl⟩) hP hD (va_recv hK hP (ci := 4) (q0 := 0) rfl rfl) rfl rfl (Nat.le_of_ble_eq_true rfl) dX4_forget_26 ⟨Nat.le_of_ble_eq_true rfl, Nat.le_of_ble_eq_true rfl⟩) hD hS hA (fun r w1 h => h.2.ad2 hw9) (fun r_3 w1 H locs hpo hP hD hS => ?_)
      obtain ⟨hr9, hw8⟩ := hpo
      have hfe : (sL x).filter (fun e => decide (¬ (z.toInt ≤ (e.1 : Int) ∧ (e.1 : Int) ≤ (2147483647 : Int32).toInt))) = ((sL x).filter (fun e => decide ((e.1 : Int) < z.toInt))) := by
        refine List.filter_congr fun e he => ?_
        have h9 := hL9.2 e he
        have h8 : (2147483647 : Int32).toInt = 2147483647 := by decide
        rw [h8]
        exact decide_eq_decide.mpr (by omega)
      rw [hfe] at hw8 hr9
      rw [cb_len] at hr9
      refine lv_goto (tgt := 33) hx hb dX4_forget_29 (by decide) ?_
      exact W.iret hx hb hr (fun t9 ht9 _ => ⟨⟨_, w1, rfl, ⟨0, hk9, fun _ => ⟨hr9, hw8⟩, fun q => absurd rfl q⟩, by show va_P D vwCl _ t9.heap; rw [ht9]; exact hP⟩, hS.F ht9⟩) hS.2.2 dX4_forget_33
  refine lv_aload_n hx hb dX4_forget_0 rfl (lv_at hl 0 rfl) ?_
  refine lv_iload_n hx hb dX4_forget_1 rfl (lv_at hl 1 rfl) ?_
  refine lv_aload_n hx hb dX4_forget_2 rfl (lv_at hl 0 rfl) ?_
  refine va_get (D := D) (ci := 4) (v := .int (nI (sT x))) (C := RX4) (T := TX4) (N := 18) hx hb hts hiX4 hown hK hP 0 rfl rfl 3 (by decide) (hts (.fieldLink RX4 62 "StateKeeperModel" "now" "I") (List.mem_of_getElem? (i := 1) rfl)) (fun _ h9 => h9) rfl dX4_forget_3 ?_
  refine lv_icmp_lt (tgt := 13) hx hb dX4_forget_6 (by decide) (fun c_4 => ?_) (fun c_4 => ?_)
  · refine lv_iconst (v := nI 0) hx hb dX4_forget_13 (by decide) ?_
    exact j1 _ (Or.inr ⟨fun q => absurd ((iz_lt_r (by omega)).mp c_4) (by omega), rfl⟩)
  · have e1 : (sT x : Int) ≤ z.toInt := by have := mt (iz_lt_r (a := sT x) (by omega)).mpr c_4; omega
    refine lv_iconst (v := nI 1) hx hb dX4_forget_9 (by decide) ?_
    refine lv_goto (tgt := 14) hx hb dX4_forget_10 (by decide) ?_
    exact j1 _ (Or.inl ⟨e1, rfl⟩)

set_option maxRecDepth 100000 in
set_option maxHeartbeats 4000000 in
/-- cell(i) -/
theorem c_X4_cell {z : Int32} (hw : WM cI cF u n ev th R x w) (hx0 : Ok n ev R x) : Met l yX4_cell wsX4_cell (rmk 3 0 0) (pcW l D cI cF cQ aT [.ref (u 0), .int z] w sz) (va_Qf (fun (r : UInt32) (w1 : va_W) => ∃ k, cdR (kn n z) True True k ∧ (k = 0 → r = (sc x (tn z)) ∧ WM cI cF u n ev (nI k) R x w1) ∧ (k ≠ 0 → WM cI cF u n ev (nI k) R x w1)) (fun w1 t => va_P D vwCl w1 t.heap) (va_A w sz)) 0 0 (va_A w sz) := by
  obtain ⟨r1, r2, r3, f1, f2, f3, f4, k1, kc, hdr, hrec, hks, rfl⟩ := id hw
  refine lz_ofM (Qf := fun A => va_Qf (fun (r : UInt32) (w1 : va_W) => ∃ k, cdR (kn n z) True True k ∧ (k = 0 → r = (sc x (tn z)) ∧ WM cI cF u n ev (nI k) R x w1) ∧ (k ≠ 0 → WM cI cF u n ev (nI k) R x w1)) (fun w1 t => va_P D vwCl w1 t.heap) A) (cc := cX4_cell) (maxL := 2) (ret := (some .float)) (by decide) rfl (Nat.le_of_ble_eq_true rfl) ?_
  intro p e s m below meth c A hAe hsz hx hb hr hlk hin hC hP hD hS ls hl
  clear hAe
  have hts := hC.1.2.2.2.2
  have hown : s.vm.findClass RX4 = some m.cls := hC.1.2.2.2.1
  have hml := hC.1.2.2.1
  have hA := hC.2.1
  have hK := hC.2.2.2.1
  have hnm := hC.2.2.2.2.1
  have hnf := hC.2.2.2.2.2.1
  have hiX4 : ∀ w ∈ u_ws RX4 TX4 18, w ∈ wsX4_cell := fun _ h => List.mem_cons_of_mem _ (List.mem_append_right _ h)
  have hl : lv_has ls 2 [(0, .ref (u 0)), (1, .int z)] := hl
  have hn9 := hx0.1.2
  have hn1 := hx0.1.1
  have hev9 := hx0.2.1
  have hR9 : dIn n R := hx0.2.2.1
  have hcf : cfin (sc x) := hx0.2.2.2.1
  have hT9 : sT x < 2 ^ 29 := hx0.2.2.2.2.1
  have hL9 : rIn n (sL x) := hx0.2.2.2.2.2.1
  have hS9 : sGood (sS x) := hx0.2.2.2.2.2.2.1
  have hL8 := hL9.1
  have hS8 := hS9.2.1
  have hR8 := hR9.1
  refine lv_aload_n hx hb dX4_cell_0 rfl (lv_at hl 0 rfl) ?_
  refine lv_aload_n hx hb dX4_cell_1 rfl (lv_at hl 0 rfl) ?_
  refine lv_iload_n hx hb dX4_cell_2 rfl (lv_at hl 1 rfl) ?_
  refine vp_callSi (lz_runV (C := RX4) (As := [.int z]) (rest := [.ref (u 0)]) hC hS hl (c_X4_known hw hn9) (cwV 1 hts gX4_cell_X4_known rfl rfl rfl (by decide +kernel) ⟨Nat.le_of_ble_eq_true rfl, Nat.le_of_ble_eq_true rfl⟩) hP hD (va_recv hK hP (ci := 4) (q0 := 0) rfl rfl) rfl rfl (Nat.le_of_ble_eq_true rfl) dX4_cell_3 ⟨Nat.le_of_ble_eq_true rfl, Nat.le_of_ble_eq_true rfl⟩).run (fun x1 hx1 => ?_)
  refine lv_iconst (v := nI 1) hx hb dX4_cell_6 (by decide) ?_
  refine lv_iconst (v := nI 1) hx hb dX4_cell_7 (by decide) ?_
  refine lz_cMi0 (lz_runV (C := RX4) (As := [.int x1, .int (nI 1), .int (nI 1)]) (rest := []) hC hS hl (c_X4_goes hx1 (Or.inl ⟨trivial, rfl⟩ : bz True (nI 1)) (Or.inl ⟨trivial, rfl⟩ : bz True (nI 1)) hw) (cwV 3 hts gX4_cell_X4_goes rfl rfl rfl (by decide +kernel) ⟨Nat.le_of_ble_eq_true rfl, Nat.le_of_ble_eq_true rfl⟩) hP hD (va_recv hK hP (ci := 4) (q0 := 0) rfl rfl) rfl rfl (Nat.le_of_ble_eq_true rfl) dX4_cell_8 ⟨Nat.le_of_ble_eq_true rfl, Nat.le_of_ble_eq_true rfl⟩) hD hS hA (fun r w1 h => by obtain ⟨k, -, -, h⟩ := h; exact h.ad2 hw) (fun r_1 w1 H locs hpo hP hD hS => ?_)
  obtain ⟨k9, hk9, hb9, hw9⟩ := hpo
  refine lv_if_eq (tgt := 23) hx hb dX4_cell_11 (by decide) (fun c_2 => ?_) (fun c_2 => ?_)
  · have hk0 : ¬ k9 = 0 := bz_0 hb9 c_2
    refine lv_fconst0 hx hb dX4_cell_23 ?_
    exact W.fret hx hb hr (fun t9 ht9 _ => ⟨⟨_, w1, rfl, ⟨k9, hk9, fun q => absurd q hk0, fun _ => hw9⟩, by show va_P D vwCl _ t9.heap; rw [ht9]; exact hP⟩, hS.F ht9⟩) hS.2.2 dX4_cell_24
  · have hk0 : k9 = 0 := bz_1 hb9 c_2
    subst hk0
    have hpp := cdR_0 hk9 rfl
    obtain ⟨r1, r2, r3, f1, f2, f3, f4, k1, kc, hdr, hrec, hks, rfl⟩ := id hw9
    have hP : va_P D vwCl ([((u 0), .inr (4, [.int (nI 0), .int (nI n), .ref (u 1), .int (nI (sT x)), .int (nI ev), .int (sd x), .int (nI R.length), .ref (u 2), .ref (u 3), .ref (u 4), .int (nI ((sL x).length)), .ref (u 5), .ref (u 6), .ref (u 7), .ref (u 8), .int (nI ((sS x).length)), .ref (u 9), .ref (u 10)])), ((u 1), .inl (cF, 256, .inr (.inr (.inl (sc x))))), ((u 2), .inl (cI, 64, .inl r1)), ((u 3), .inl (cI, 64, .inl r2)), ((u 4), .inl (cF, 64, .inr (.inr (.inl r3)))), ((u 5), .inl (cI, 512, .inl f1)), ((u 6), .inl (cI, 512, .inl f2)), ((u 7), .inl (cI, 512, .inl f3)), ((u 8), .inl (cF, 512, .inr (.inr (.inl f4)))), ((u 9), .inl (cI, 16, .inl k1)), ((u 10), .inl (cF, 4096, .inr (.inr (.inl kc))))]) H := hP
    have hD : va_D A ([((u 0), .inr (4, [.int (nI 0), .int (nI n), .ref (u 1), .int (nI (sT x)), .int (nI ev), .int (sd x), .int (nI R.length), .ref (u 2), .ref (u 3), .ref (u 4), .int (nI ((sL x).length)), .ref (u 5), .ref (u 6), .ref (u 7), .ref (u 8), .int (nI ((sS x).length)), .ref (u 9), .ref (u 10)])), ((u 1), .inl (cF, 256, .inr (.inr (.inl (sc x))))), ((u 2), .inl (cI, 64, .inl r1)), ((u 3), .inl (cI, 64, .inl r2)), ((u 4), .inl (cF, 64, .inr (.inr (.inl r3)))), ((u 5), .inl (cI, 512, .inl f1)), ((u 6), .inl (cI, 512, .inl f2)), ((u 7), .inl (cI, 512, .inl f3)), ((u 8), .inl (cF, 512, .inr (.inr (.inl f4)))), ((u 9), .inl (cI, 16, .inl k1)), ((u 10), .inl (cF, 4096, .inr (.inr (.inl kc))))]) := hD
    obtain ⟨z0, hz8, rfl, hz⟩ := iz_nat hpp.1.1
    have hl : lv_has ls 2 [(0, .ref (u 0)), (1, .int (nI z0))] := hl
    refine lv_aload_n hx hb dX4_cell_14 rfl (lv_at hl 0 rfl) ?_
    refine va_get (D := D) (ci := 4) (v := .ref (u 1)) (C := RX4) (T := TX4) (N := 18) hx hb hts hiX4 hown hK hP 0 rfl rfl 2 (by decide) (hts (.fieldLink RX4 7 "StateKeeperModel" "cells" "[F") (List.mem_of_getElem? (i := 1) rfl)) (fun _ h9 => h9) rfl dX4_cell_15 ?_
    refine lv_iload_n hx hb dX4_cell_18 rfl (lv_at hl 1 rfl) ?_
    refine lz_fald hx hb hK hP 1 0 rfl rfl (by omega) (by omega) dX4_cell_19 ?_
    refine lv_goto (tgt := 24) hx hb dX4_cell_20 (by decide) ?_
    exact W.fret hx hb hr (fun t9 ht9 _ => ⟨⟨_, [((u 0), .inr (4, [.int (nI 0), .int (nI n), .ref (u 1), .int (nI (sT x)), .int (nI ev), .int (sd x), .int (nI R.length), .ref (u 2), .ref (u 3), .ref (u 4), .int (nI ((sL x).length)), .ref (u 5), .ref (u 6), .ref (u 7), .ref (u 8), .int (nI ((sS x).length)), .ref (u 9), .ref (u 10)])), ((u 1), .inl (cF, 256, .inr (.inr (.inl (sc x))))), ((u 2), .inl (cI, 64, .inl r1)), ((u 3), .inl (cI, 64, .inl r2)), ((u 4), .inl (cF, 64, .inr (.inr (.inl r3)))), ((u 5), .inl (cI, 512, .inl f1)), ((u 6), .inl (cI, 512, .inl f2)), ((u 7), .inl (cI, 512, .inl f3)), ((u 8), .inl (cF, 512, .inr (.inr (.inl f4)))), ((u 9), .inl (cI, 16, .inl k1)), ((u 10), .inl (cF, 4096, .inr (.inr (.inl kc))))], rfl, ⟨0, hk9, fun _ => ⟨by rw [tn_nI hz8], hw9⟩, fun q => absurd rfl q⟩, by show va_P D vwCl _ t9.heap; rw [ht9]; exact hP⟩, hS.F ht9⟩) hS.2.2 dX4_cell_24

set_option maxRecDepth 100000 in
set_option maxHeartbeats 4000000 in
/-- kept(step, i) -/
theorem c_X4_kept {z i : Int32} (hw : WM cI cF u n ev th R x w) (hx0 : Ok n ev R x) : Met l yX4_kept wsX4_kept (rmk 3 0 0) (pcW l D cI cF cQ aT [.ref (u 0), .int z, .int i] w sz) (va_Qf (fun (r : UInt32) (w1 : va_W) => ∃ k, cdR (kn n i ∧ plc (sS x) z.toInt ≠ none) True True k ∧ (k = 0 → r = (sgt (sS x) z.toInt (tn i)) ∧ WM cI cF u n ev (nI k) R x w1) ∧ (k ≠ 0 → WM cI cF u n ev (nI k) R x w1)) (fun w1 t => va_P D vwCl w1 t.heap) (va_A w sz)) 0 0 (va_A w sz) := by
  obtain ⟨r1, r2, r3, f1, f2, f3, f4, k1, kc, hdr, hrec, hks, rfl⟩ := id hw
  refine lz_ofM (Qf := fun A => va_Qf (fun (r : UInt32) (w1 : va_W) => ∃ k, cdR (kn n i ∧ plc (sS x) z.toInt ≠ none) True True k ∧ (k = 0 → r = (sgt (sS x) z.toInt (tn i)) ∧ WM cI cF u n ev (nI k) R x w1) ∧ (k ≠ 0 → WM cI cF u n ev (nI k) R x w1)) (fun w1 t => va_P D vwCl w1 t.heap) A) (cc := cX4_kept) (maxL := 4) (ret := (some .float)) (by decide) rfl (Nat.le_of_ble_eq_true rfl) ?_
  intro p e s m below meth c A hAe hsz hx hb hr hlk hin hC hP hD hS ls hl
  clear hAe
  have hts := hC.1.2.2.2.2
  have hown : s.vm.findClass RX4 = some m.cls := hC.1.2.2.2.1
  have hml := hC.1.2.2.1
  have hA := hC.2.1
  have hK := hC.2.2.2.1
  have hnm := hC.2.2.2.2.1
  have hnf := hC.2.2.2.2.2.1
  have hiX4 : ∀ w ∈ u_ws RX4 TX4 18, w ∈ wsX4_kept := fun _ h => List.mem_cons_of_mem _ (List.mem_append_right _ h)
  have hl : lv_has ls 4 [(0, .ref (u 0)), (1, .int z), (2, .int i)] := hl
  have hn9 := hx0.1.2
  have hn1 := hx0.1.1
  have hev9 := hx0.2.1
  have hR9 : dIn n R := hx0.2.2.1
  have hcf : cfin (sc x) := hx0.2.2.2.1
  have hT9 : sT x < 2 ^ 29 := hx0.2.2.2.2.1
  have hL9 : rIn n (sL x) := hx0.2.2.2.2.2.1
  have hS9 : sGood (sS x) := hx0.2.2.2.2.2.2.1
  have hL8 := hL9.1
  have hS8 := hS9.2.1
  have hR8 := hR9.1
  refine lv_aload_n hx hb dX4_kept_0 rfl (lv_at hl 0 rfl) ?_
  refine lv_iload_n hx hb dX4_kept_1 rfl (lv_at hl 1 rfl) ?_
  refine vp_callSi (lz_runV (C := RX4) (As := [.int z]) (rest := []) hC hS hl (c_X4_placeOf hS9 hw) (cwV 1 hts gX4_kept_X4_placeOf rfl rfl rfl (by decide +kernel) ⟨Nat.le_of_ble_eq_true rfl, Nat.le_of_ble_eq_true rfl⟩) hP hD (va_recv hK hP (ci := 4) (q0 := 0) rfl rfl) rfl rfl (Nat.le_of_ble_eq_true rfl) dX4_kept_2 ⟨Nat.le_of_ble_eq_true rfl, Nat.le_of_ble_eq_true rfl⟩).run (fun r_1 er_1 => ?_)
  subst er_1
  rcases opt_or (plc (sS x) z.toInt) with hpl | ⟨j, hpl⟩
  · refine lz_i (y := -1) (by rw [hpl]; rfl) ?_
    refine lv_istore_n (lv' := [(3, .int (-1)), (0, .ref (u 0)), (1, .int z), (2, .int i)]) hx hb dX4_kept_5 rfl hl (by decide) rfl (fun ls hl => ?_)
    refine lv_aload_n hx hb dX4_kept_6 rfl (lv_at hl 1 rfl) ?_
    refine lv_iload_n hx hb dX4_kept_7 rfl (lv_at hl 0 rfl) ?_
    refine lv_if_lt (tgt := 23) hx hb dX4_kept_8 (by decide) (fun c_2 => ?_) (fun c_2 => absurd (by decide) c_2)
    refine lv_iconst (v := nI 0) hx hb dX4_kept_23 (by decide) ?_
    refine lv_iconst (v := nI 1) hx hb dX4_kept_24 (by decide) ?_
    refine lv_iconst (v := nI 1) hx hb dX4_kept_25 (by decide) ?_
    refine lz_cMi0 (lz_runV (C := RX4) (As := [.int (nI 0), .int (nI 1), .int (nI 1)]) (rest := []) hC hS hl (c_X4_goes (Or.inr ⟨fun q => q.2 hpl, rfl⟩ : bz (kn n i ∧ plc (sS x) z.toInt ≠ none) (nI 0)) (Or.inl ⟨trivial, rfl⟩ : bz True (nI 1)) (Or.inl ⟨trivial, rfl⟩ : bz True (nI 1)) hw) (cwV 3 hts gX4_kept_X4_goes rfl rfl rfl (by decide +kernel) ⟨Nat.le_of_ble_eq_true rfl, Nat.le_of_ble_eq_true rfl⟩) hP hD (va_recv hK hP (ci := 4) (q0 := 0) rfl rfl) rfl rfl (Nat.le_of_ble_eq_true rfl) dX4_kept_26 ⟨Nat.le_of_ble_eq_true rfl, Nat.le_of_ble_eq_true rfl⟩) hD hS hA (fun r w1 h => by obtain ⟨k, -, -, h⟩ := h; exact h.ad2 hw) (fun r_3 w1 H locs hpo hP hD hS => ?_)
    obtain ⟨k9, hk9, hb9, hw9⟩ := hpo
    refine lv_if_eq (tgt := 47) hx hb dX4_kept_29 (by decide) (fun c_4 => ?_) (fun c_4 => ?_)
    · have hk0 : ¬ k9 = 0 := bz_0 hb9 c_4
      refine lv_fconst0 hx hb dX4_kept_47 ?_
      exact W.fret hx hb hr (fun t9 ht9 _ => ⟨⟨_, w1, rfl, ⟨k9, hk9, fun q => absurd q hk0, fun _ => hw9⟩, by show va_P D vwCl _ t9.heap; rw [ht9]; exact hP⟩, hS.F ht9⟩) hS.2.2 dX4_kept_48
    · exact absurd hpl (cdR_0 hk9 (bz_1 hb9 c_4)).1.2
  · refine lz_i (y := nI j) (by rw [hpl]; rfl) ?_
    obtain ⟨ee, hj, hez, hsg⟩ := plc_get hpl
    have hjl : j < (sS x).length := (List.getElem?_eq_some_iff.mp hj).1
    refine lv_istore_n (lv' := [(3, .int (nI j)), (0, .ref (u 0)), (1, .int z), (2, .int i)]) hx hb dX4_kept_5 rfl hl (by decide) rfl (fun ls hl => ?_)
    have j1 : ∀ b1 : Int32, bz (kn n i ∧ plc (sS x) z.toInt ≠ none) b1 → W p l e (rmk 3 0 0) s m [.ref (u 0), .int z, .int i].toArray below meth c s.heap [] 0 0 (MQ below (va_Qf (fun (r : UInt32) (w1 : va_W) => ∃ k, cdR (kn n i ∧ plc (sS x) z.toInt ≠ none) True True k ∧ (k = 0 → r = (sgt (sS x) z.toInt (tn i)) ∧ WM cI cF u n ev (nI k) R x w1) ∧ (k ≠ 0 → WM cI cF u n ev (nI k) R x w1)) (fun w1 t => va_P D vwCl w1 t.heap) A) [.ref (u 0), .int z, .int i].toArray s 0 0 A) (F0 m 24 ls [.int b1, .ref (u 0)]) := by
      intro b1 h1
      refine lv_iconst (v := nI 1) hx hb dX4_kept_24 (by decide) ?_
      refine lv_iconst (v := nI 1) hx hb dX4_kept_25 (by decide) ?_
      refine lz_cMi0 (lz_runV (C := RX4) (As := [.int b1, .int (nI 1), .int (nI 1)]) (rest := []) hC hS hl (c_X4_goes h1 (Or.inl ⟨trivial, rfl⟩ : bz True (nI 1)) (Or.inl ⟨trivial, rfl⟩ : bz True (nI 1)) hw) (cwV 3 hts gX4_kept_X4_goes rfl rfl rfl (by decide +kernel) ⟨Nat.le_of_ble_eq_true rfl, Nat.le_of_ble_eq_true rfl⟩) hP hD (va_recv hK hP (ci := 4) (q0 := 0) rfl rfl) rfl rfl (Nat.le_of_ble_eq_true rfl) dX4_kept_26 ⟨Nat.le_of_ble_eq_true rfl, Nat.le_of_ble_eq_true rfl⟩) hD hS hA (fun r w1 h => by obtain ⟨k, -, -, h⟩ := h; exact h.ad2 hw) (fun r_5 w1 H locs hpo hP hD hS => ?_)
      obtain ⟨k9, hk9, hb9, hw9⟩ := hpo
      refine lv_if_eq (tgt := 47) hx hb dX4_kept_29 (by decide) (fun c_6 => ?_) (fun c_6 => ?_)
      · have hk0 : ¬ k9 = 0 := bz_0 hb9 c_6
        refine lv_fconst0 hx hb dX4_kept_47 ?_
        exact W.fret hx hb hr (fun t9 ht9 _ => ⟨⟨_, w1, rfl, ⟨k9, hk9, fun q => absurd q hk0, fun _ => hw9⟩, by show va_P D vwCl _ t9.heap; rw [ht9]; exact hP⟩, hS.F ht9⟩) hS.2.2 dX4_kept_48
      · have hk0 : k9 = 0 := bz_1 hb9 c_6
        subst hk0
        have hpp := cdR_0 hk9 rfl
        obtain ⟨r1, r2, r3, f1, f2, f3, f4, k1, kc, hdr, hrec, hks, rfl⟩ := id hw9
        have hP : va_P D vwCl ([((u 0), .inr (4, [.int (nI 0), .int (nI n), .ref (u 1), .int (nI (sT x)), .int (nI ev), .int (sd x), .int (nI R.length), .ref (u 2), .ref (u 3), .ref (u 4), .int (nI ((sL x).length)), .ref (u 5), .ref (u 6), .ref (u 7), .ref (u 8), .int (nI ((sS x).length)), .ref (u 9), .ref (u 10)])), ((u 1), .inl (cF, 256, .inr (.inr (.inl (sc x))))), ((u 2), .inl (cI, 64, .inl r1)), ((u 3), .inl (cI, 64, .inl r2)), ((u 4), .inl (cF, 64, .inr (.inr (.inl r3)))), ((u 5), .inl (cI, 512, .inl f1)), ((u 6), .inl (cI, 512, .inl f2)), ((u 7), .inl (cI, 512, .inl f3)), ((u 8), .inl (cF, 512, .inr (.inr (.inl f4)))), ((u 9), .inl (cI, 16, .inl k1)), ((u 10), .inl (cF, 4096, .inr (.inr (.inl kc))))]) H := hP
        have hD : va_D A ([((u 0), .inr (4, [.int (nI 0), .int (nI n), .ref (u 1), .int (nI (sT x)), .int (nI ev), .int (sd x), .int (nI R.length), .ref (u 2), .ref (u 3), .ref (u 4), .int (nI ((sL x).length)), .ref (u 5), .ref (u 6), .ref (u 7), .ref (u 8), .int (nI ((sS x).length)), .ref (u 9), .ref (u 10)])), ((u 1), .inl (cF, 256, .inr (.inr (.inl (sc x))))), ((u 2), .inl (cI, 64, .inl r1)), ((u 3), .inl (cI, 64, .inl r2)), ((u 4), .inl (cF, 64, .inr (.inr (.inl r3)))), ((u 5), .inl (cI, 512, .inl f1)), ((u 6), .inl (cI, 512, .inl f2)), ((u 7), .inl (cI, 512, .inl f3)), ((u 8), .inl (cF, 512, .inr (.inr (.inl f4)))), ((u 9), .inl (cI, 16, .inl k1)), ((u 10), .inl (cF, 4096, .inr (.inr (.inl kc))))]) := hD
        obtain ⟨i0, hi8, rfl, hi⟩ := iz_nat hpp.1.1.1
        have hl : lv_has ls 4 [(3, .int (nI j)), (0, .ref (u 0)), (1, .int z), (2, .int (nI i0))] := hl
        refine lv_aload_n hx hb dX4_kept_32 rfl (lv_at hl 1 rfl) ?_
        refine va_get (D := D) (ci := 4) (v := .ref (u 10)) (C := RX4) (T := TX4) (N := 18) hx hb hts hiX4 hown hK hP 0 rfl rfl 17 (by decide) (hts (.fieldLink RX4 38 "StateKeeperModel" "keptCells" "[F") (List.mem_of_getElem? (i := 1) rfl)) (fun _ h9 => h9) rfl dX4_kept_33 ?_
        refine lv_sipush (v := nI 256) hx hb dX4_kept_36 (by decide) ?_
        refine lv_iload_n hx hb dX4_kept_39 rfl (lv_at hl 0 rfl) ?_
        refine lv_imul hx hb dX4_kept_40 ?_
        refine lz_i (pk_mul _ _) ?_
        refine lv_iload_n hx hb dX4_kept_41 rfl (lv_at hl 3 rfl) ?_
        refine lv_iadd hx hb dX4_kept_42 ?_
        refine lz_i (nI_add _ _) ?_
        refine lz_fald hx hb hK hP 10 0 rfl rfl (by omega) (by omega) dX4_kept_43 ?_
        refine lz_f (y := ee.2 i0) ((hks j ee hj).2 i0 (by omega)) ?_
        refine lv_goto (tgt := 48) hx hb dX4_kept_44 (by decide) ?_
        exact W.fret hx hb hr (fun t9 ht9 _ => ⟨⟨_, [((u 0), .inr (4, [.int (nI 0), .int (nI n), .ref (u 1), .int (nI (sT x)), .int (nI ev), .int (sd x), .int (nI R.length), .ref (u 2), .ref (u 3), .ref (u 4), .int (nI ((sL x).length)), .ref (u 5), .ref (u 6), .ref (u 7), .ref (u 8), .int (nI ((sS x).length)), .ref (u 9), .ref (u 10)])), ((u 1), .inl (cF, 256, .inr (.inr (.inl (sc x))))), ((u 2), .inl (cI, 64, .inl r1)), ((u 3), .inl (cI, 64, .inl r2)), ((u 4), .inl (cF, 64, .inr (.inr (.inl r3)))), ((u 5), .inl (cI, 512, .inl f1)), ((u 6), .inl (cI, 512, .inl f2)), ((u 7), .inl (cI, 512, .inl f3)), ((u 8), .inl (cF, 512, .inr (.inr (.inl f4)))), ((u 9), .inl (cI, 16, .inl k1)), ((u 10), .inl (cF, 4096, .inr (.inr (.inl kc))))], rfl, ⟨0, hk9, fun _ => ⟨by rw [tn_nI hi8, hsg], hw9⟩, fun q => absurd rfl q⟩, by show va_P D vwCl _ t9.heap; rw [ht9]; exact hP⟩, hS.F ht9⟩) hS.2.2 dX4_kept_48
    refine lv_aload_n hx hb dX4_kept_6 rfl (lv_at hl 1 rfl) ?_
    refine lv_iload_n hx hb dX4_kept_7 rfl (lv_at hl 0 rfl) ?_
    refine lv_if_lt (tgt := 23) hx hb dX4_kept_8 (by decide) (fun c_7 => absurd c_7 (fun q => absurd (iz_lt0.mp q) (by rw [nI_toInt (by omega)]; omega))) (fun c_7 => ?_)
    refine lv_aload_n hx hb dX4_kept_11 rfl (lv_at hl 1 rfl) ?_
    refine lv_iload_n hx hb dX4_kept_12 rfl (lv_at hl 3 rfl) ?_
    refine vp_callSi (lz_runV (C := RX4) (As := [.int i]) (rest := [.ref (u 0)]) hC hS hl (c_X4_known hw hn9) (cwV 1 hts gX4_kept_X4_known rfl rfl rfl (by decide +kernel) ⟨Nat.le_of_ble_eq_true rfl, Nat.le_of_ble_eq_true rfl⟩) hP hD (va_recv hK hP (ci := 4) (q0 := 0) rfl rfl) rfl rfl (Nat.le_of_ble_eq_true rfl) dX4_kept_13 ⟨Nat.le_of_ble_eq_true rfl, Nat.le_of_ble_eq_true rfl⟩).run (fun x1 hx1 => ?_)
    refine lv_if_eq (tgt := 23) hx hb dX4_kept_16 (by decide) (fun c_8 => ?_) (fun c_8 => ?_)
    · refine lv_iconst (v := nI 0) hx hb dX4_kept_23 (by decide) ?_
      exact j1 _ (Or.inr ⟨fun q => bz_0 hx1 c_8 q.1, rfl⟩)
    · refine lv_iconst (v := nI 1) hx hb dX4_kept_19 (by decide) ?_
      refine lv_goto (tgt := 24) hx hb dX4_kept_20 (by decide) ?_
      exact j1 _ (Or.inl ⟨⟨bz_1 hx1 c_8, by rw [hpl]; exact Option.some_ne_none j⟩, rfl⟩)

set_option maxRecDepth 100000 in
set_option maxHeartbeats 4000000 in
/-- differs(step) -/
theorem c_X4_differs {z : Int32} (hw : WM cI cF u n ev th R x w) (hx0 : Ok n ev R x) : Met l yX4_differs wsX4_differs (rmk 3 0 0) (pcW l D cI cF cQ aT [.ref (u 0), .int z] w sz) (va_Qi (fun (r : Int32) (w1 : va_W) => ∃ k, cdR (plc (sS x) z.toInt ≠ none) True True k ∧ (k = 0 → r = (dif (sc x) (sgt (sS x) z.toInt) n 0) ∧ WM cI cF u n ev (nI k) R x w1) ∧ (k ≠ 0 → WM cI cF u n ev (nI k) R x w1)) (fun w1 t => va_P D vwCl w1 t.heap) (va_A w sz)) 0 0 (va_A w sz) := by
  obtain ⟨r1, r2, r3, f1, f2, f3, f4, k1, kc, hdr, hrec, hks, rfl⟩ := id hw
  refine lz_ofM (Qf := fun A => va_Qi (fun (r : Int32) (w1 : va_W) => ∃ k, cdR (plc (sS x) z.toInt ≠ none) True True k ∧ (k = 0 → r = (dif (sc x) (sgt (sS x) z.toInt) n 0) ∧ WM cI cF u n ev (nI k) R x w1) ∧ (k ≠ 0 → WM cI cF u n ev (nI k) R x w1)) (fun w1 t => va_P D vwCl w1 t.heap) A) (cc := cX4_differs) (maxL := 4) (ret := (some .int)) (by decide) rfl (Nat.le_of_ble_eq_true rfl) ?_
  intro p e s m below meth c A hAe hsz hx hb hr hlk hin hC hP hD hS ls hl
  clear hAe
  have hts := hC.1.2.2.2.2
  have hown : s.vm.findClass RX4 = some m.cls := hC.1.2.2.2.1
  have hml := hC.1.2.2.1
  have hA := hC.2.1
  have hK := hC.2.2.2.1
  have hnm := hC.2.2.2.2.1
  have hnf := hC.2.2.2.2.2.1
  have hiX4 : ∀ w ∈ u_ws RX4 TX4 18, w ∈ wsX4_differs := fun _ h => List.mem_cons_of_mem _ (List.mem_append_right _ h)
  have hl : lv_has ls 4 [(0, .ref (u 0)), (1, .int z)] := hl
  have hn9 := hx0.1.2
  have hn1 := hx0.1.1
  have hev9 := hx0.2.1
  have hR9 : dIn n R := hx0.2.2.1
  have hcf : cfin (sc x) := hx0.2.2.2.1
  have hT9 : sT x < 2 ^ 29 := hx0.2.2.2.2.1
  have hL9 : rIn n (sL x) := hx0.2.2.2.2.2.1
  have hS9 : sGood (sS x) := hx0.2.2.2.2.2.2.1
  have hL8 := hL9.1
  have hS8 := hS9.2.1
  have hR8 := hR9.1
  refine lv_aload_n hx hb dX4_differs_0 rfl (lv_at hl 0 rfl) ?_
  refine lv_iload_n hx hb dX4_differs_1 rfl (lv_at hl 1 rfl) ?_
  refine vp_callSi (lz_runV (C := RX4) (As := [.int z]) (rest := []) hC hS hl (c_X4_placeOf hS9 hw) (cwV 1 hts gX4_differs_X4_placeOf rfl rfl rfl (by decide +kernel) ⟨Nat.le_of_ble_eq_true rfl, Nat.le_of_ble_eq_true rfl⟩) hP hD (va_recv hK hP (ci := 4) (q0 := 0) rfl rfl) rfl rfl (Nat.le_of_ble_eq_true rfl) dX4_differs_2 ⟨Nat.le_of_ble_eq_true rfl, Nat.le_of_ble_eq_true rfl⟩).run (fun r_1 er_1 => ?_)
  subst er_1
  rcases opt_or (plc (sS x) z.toInt) with hpl | ⟨j, hpl⟩
  · refine lz_i (y := -1) (by rw [hpl]; rfl) ?_
    refine lv_istore_n (lv' := [(2, .int (-1)), (0, .ref (u 0)), (1, .int z)]) hx hb dX4_differs_5 rfl hl (by decide) rfl (fun ls hl => ?_)
    refine lv_aload_n hx hb dX4_differs_6 rfl (lv_at hl 1 rfl) ?_
    refine lv_iload_n hx hb dX4_differs_7 rfl (lv_at hl 0 rfl) ?_
    refine lv_if_lt (tgt := 15) hx hb dX4_differs_8 (by decide) (fun c_2 => ?_) (fun c_2 => absurd (by decide) c_2)
    refine lv_iconst (v := nI 0) hx hb dX4_differs_15 (by decide) ?_
    refine lv_iconst (v := nI 1) hx hb dX4_differs_16 (by decide) ?_
    refine lv_iconst (v := nI 1) hx hb dX4_differs_17 (by decide) ?_
    refine lz_cMi0 (lz_runV (C := RX4) (As := [.int (nI 0), .int (nI 1), .int (nI 1)]) (rest := []) hC hS hl (c_X4_goes (Or.inr ⟨fun q => q hpl, rfl⟩ : bz (plc (sS x) z.toInt ≠ none) (nI 0)) (Or.inl ⟨trivial, rfl⟩ : bz True (nI 1)) (Or.inl ⟨trivial, rfl⟩ : bz True (nI 1)) hw) (cwV 3 hts gX4_differs_X4_goes rfl rfl rfl (by decide +kernel) ⟨Nat.le_of_ble_eq_true rfl, Nat.le_of_ble_eq_true rfl⟩) hP hD (va_recv hK hP (ci := 4) (q0 := 0) rfl rfl) rfl rfl (Nat.le_of_ble_eq_true rfl) dX4_differs_18 ⟨Nat.le_of_ble_eq_true rfl, Nat.le_of_ble_eq_true rfl⟩) hD hS hA (fun r w1 h => by obtain ⟨k, -, -, h⟩ := h; exact h.ad2 hw) (fun r_3 w1 H locs hpo hP hD hS => ?_)
    obtain ⟨k9, hk9, hb9, hw9⟩ := hpo
    refine lv_if_ne (tgt := 26) hx hb dX4_differs_21 (by decide) (fun c_4 => ?_) (fun c_4 => ?_)
    · exact absurd hpl (cdR_0 hk9 (bz_1 hb9 c_4)).1
    · have hk0 : ¬ k9 = 0 := bz_0 hb9 c_4
      refine lv_iconst (v := nI 0) hx hb dX4_differs_24 (by decide) ?_
      exact W.iret hx hb hr (fun t9 ht9 _ => ⟨⟨_, w1, rfl, ⟨k9, hk9, fun q => absurd q hk0, fun _ => hw9⟩, by show va_P D vwCl _ t9.heap; rw [ht9]; exact hP⟩, hS.F ht9⟩) hS.2.2 dX4_differs_25
  · refine lz_i (y := nI j) (by rw [hpl]; rfl) ?_
    obtain ⟨ee, hj, hez, hsg⟩ := plc_get hpl
    have hjl : j < (sS x).length := (List.getElem?_eq_some_iff.mp hj).1
    refine lv_istore_n (lv' := [(2, .int (nI j)), (0, .ref (u 0)), (1, .int z)]) hx hb dX4_differs_5 rfl hl (by decide) rfl (fun ls hl => ?_)
    refine lv_aload_n hx hb dX4_differs_6 rfl (lv_at hl 1 rfl) ?_
    refine lv_iload_n hx hb dX4_differs_7 rfl (lv_at hl 0 rfl) ?_
    refine lv_if_lt (tgt := 15) hx hb dX4_differs_8 (by decide) (fun c_5 => absurd c_5 (fun q => absurd (iz_lt0.mp q) (by rw [nI_toInt (by omega)]; omega))) (fun c_5 => ?_)
    refine lv_iconst (v := nI 1) hx hb dX4_differs_11 (by decide) ?_
    refine lv_goto (tgt := 16) hx hb dX4_differs_12 (by decide) ?_
    refine lv_iconst (v := nI 1) hx hb dX4_differs_16 (by decide) ?_
    refine lv_iconst (v := nI 1) hx hb dX4_differs_17 (by decide) ?_
    refine lz_cMi0 (lz_runV (C := RX4) (As := [.int (nI 1), .int (nI 1), .int (nI 1)]) (rest := []) hC hS hl (c_X4_goes (Or.inl ⟨by rw [hpl]; exact Option.some_ne_none j, rfl⟩ : bz (plc (sS x) z.toInt ≠ none) (nI 1)) (Or.inl ⟨trivial, rfl⟩ : bz True (nI 1)) (Or.inl ⟨trivial, rfl⟩ : bz True (nI 1)) hw) (cwV 3 hts gX4_differs_X4_goes rfl rfl rfl (by decide +kernel) ⟨Nat.le_of_ble_eq_true rfl, Nat.le_of_ble_eq_true rfl⟩) hP hD (va_recv hK hP (ci := 4) (q0 := 0) rfl rfl) rfl rfl (Nat.le_of_ble_eq_true rfl) dX4_differs_18 ⟨Nat.le_of_ble_eq_true rfl, Nat.le_of_ble_eq_true rfl⟩) hD hS hA (fun r w1 h => by obtain ⟨k, -, -, h⟩ := h; exact h.ad2 hw) (fun r_6 w1 H locs hpo hP hD hS => ?_)
    obtain ⟨k9, hk9, hb9, hw9⟩ := hpo
    refine lv_if_ne (tgt := 26) hx hb dX4_differs_21 (by decide) (fun c_7 => ?_) (fun c_7 => ?_)
    · have hk0 : k9 = 0 := bz_1 hb9 c_7
      subst hk0
      have hpp := cdR_0 hk9 rfl
      obtain ⟨r1, r2, r3, f1, f2, f3, f4, k1, kc, hdr, hrec, hks, rfl⟩ := id hw9
      have hP : va_P D vwCl ([((u 0), .inr (4, [.int (nI 0), .int (nI n), .ref (u 1), .int (nI (sT x)), .int (nI ev), .int (sd x), .int (nI R.length), .ref (u 2), .ref (u 3), .ref (u 4), .int (nI ((sL x).length)), .ref (u 5), .ref (u 6), .ref (u 7), .ref (u 8), .int (nI ((sS x).length)), .ref (u 9), .ref (u 10)])), ((u 1), .inl (cF, 256, .inr (.inr (.inl (sc x))))), ((u 2), .inl (cI, 64, .inl r1)), ((u 3), .inl (cI, 64, .inl r2)), ((u 4), .inl (cF, 64, .inr (.inr (.inl r3)))), ((u 5), .inl (cI, 512, .inl f1)), ((u 6), .inl (cI, 512, .inl f2)), ((u 7), .inl (cI, 512, .inl f3)), ((u 8), .inl (cF, 512, .inr (.inr (.inl f4)))), ((u 9), .inl (cI, 16, .inl k1)), ((u 10), .inl (cF, 4096, .inr (.inr (.inl kc))))]) H := hP
      have hD : va_D A ([((u 0), .inr (4, [.int (nI 0), .int (nI n), .ref (u 1), .int (nI (sT x)), .int (nI ev), .int (sd x), .int (nI R.length), .ref (u 2), .ref (u 3), .ref (u 4), .int (nI ((sL x).length)), .ref (u 5), .ref (u 6), .ref (u 7), .ref (u 8), .int (nI ((sS x).length)), .ref (u 9), .ref (u 10)])), ((u 1), .inl (cF, 256, .inr (.inr (.inl (sc x))))), ((u 2), .inl (cI, 64, .inl r1)), ((u 3), .inl (cI, 64, .inl r2)), ((u 4), .inl (cF, 64, .inr (.inr (.inl r3)))), ((u 5), .inl (cI, 512, .inl f1)), ((u 6), .inl (cI, 512, .inl f2)), ((u 7), .inl (cI, 512, .inl f3)), ((u 8), .inl (cF, 512, .inr (.inr (.inl f4)))), ((u 9), .inl (cI, 16, .inl k1)), ((u 10), .inl (cF, 4096, .inr (.inr (.inl kc))))]) := hD
      refine lv_iconst (v := nI 0) hx hb dX4_differs_26 (by decide) ?_
      refine lv_istore_n (lv' := [(3, .int (nI 0)), (2, .int (nI j)), (0, .ref (u 0)), (1, .int z)]) hx hb dX4_differs_27 rfl hl (by decide) rfl (fun ls hl => ?_)
      have loop : ∀ (r i : Nat), r + i = n → dif (sc x) ee.2 r i = dif (sc x) (sgt (sS x) z.toInt) n 0 → ∀ ls : Array Slot, lv_has ls 4 [(3, .int (nI i)), (2, .int (nI j)), (0, .ref (u 0)), (1, .int z)] → W p l e (rmk 3 0 0) s m [.ref (u 0), .int z].toArray below meth c H locs 0 0 (MQ below (va_Qi (fun (r : Int32) (w1 : va_W) => ∃ k, cdR (plc (sS x) z.toInt ≠ none) True True k ∧ (k = 0 → r = (dif (sc x) (sgt (sS x) z.toInt) n 0) ∧ WM cI cF u n ev (nI k) R x w1) ∧ (k ≠ 0 → WM cI cF u n ev (nI k) R x w1)) (fun w1 t => va_P D vwCl w1 t.heap) A) [.ref (u 0), .int z].toArray s 0 0 A) (F0 m 28 ls []) := by
        intro r
        induction r with
        | zero =>
          intro i h1 h2 ls hl
          have hl : lv_has ls 4 [(3, .int (nI i)), (2, .int (nI j)), (0, .ref (u 0)), (1, .int z)] := hl
          refine lv_iload_n hx hb dX4_differs_28 rfl (lv_at hl 0 rfl) ?_
          refine lv_aload_n hx hb dX4_differs_29 rfl (lv_at hl 2 rfl) ?_
          refine va_get (D := D) (ci := 4) (v := .int (nI n)) (C := RX4) (T := TX4) (N := 18) hx hb hts hiX4 hown hK hP 0 rfl rfl 1 (by decide) (hts (.fieldLink RX4 41 "StateKeeperModel" "n" "I") (List.mem_of_getElem? (i := 1) rfl)) (fun _ h9 => h9) rfl dX4_differs_30 ?_
          refine lv_icmp_ge (tgt := 66) hx hb dX4_differs_33 (by decide) (fun c_8 => ?_) (fun c_8 => absurd (nI_le (by omega) (by omega)) c_8)
          refine lv_iconst (v := -1) hx hb dX4_differs_66 (by decide) ?_
          exact W.iret hx hb hr (fun t9 ht9 _ => ⟨⟨_, [((u 0), .inr (4, [.int (nI 0), .int (nI n), .ref (u 1), .int (nI (sT x)), .int (nI ev), .int (sd x), .int (nI R.length), .ref (u 2), .ref (u 3), .ref (u 4), .int (nI ((sL x).length)), .ref (u 5), .ref (u 6), .ref (u 7), .ref (u 8), .int (nI ((sS x).length)), .ref (u 9), .ref (u 10)])), ((u 1), .inl (cF, 256, .inr (.inr (.inl (sc x))))), ((u 2), .inl (cI, 64, .inl r1)), ((u 3), .inl (cI, 64, .inl r2)), ((u 4), .inl (cF, 64, .inr (.inr (.inl r3)))), ((u 5), .inl (cI, 512, .inl f1)), ((u 6), .inl (cI, 512, .inl f2)), ((u 7), .inl (cI, 512, .inl f3)), ((u 8), .inl (cF, 512, .inr (.inr (.inl f4)))), ((u 9), .inl (cI, 16, .inl k1)), ((u 10), .inl (cF, 4096, .inr (.inr (.inl kc))))], rfl, ⟨0, hk9, fun _ => ⟨h2, hw9⟩, fun q => absurd rfl q⟩, by show va_P D vwCl _ t9.heap; rw [ht9]; exact hP⟩, hS.F ht9⟩) hS.2.2 dX4_differs_67
        | succ r ih =>
          intro i h1 h2 ls hl
          have hl : lv_has ls 4 [(3, .int (nI i)), (2, .int (nI j)), (0, .ref (u 0)), (1, .int z)] := hl
          refine lv_iload_n hx hb dX4_differs_28 rfl (lv_at hl 0 rfl) ?_
          refine lv_aload_n hx hb dX4_differs_29 rfl (lv_at hl 2 rfl) ?_
          refine va_get (D := D) (ci := 4) (v := .int (nI n)) (C := RX4) (T := TX4) (N := 18) hx hb hts hiX4 hown hK hP 0 rfl rfl 1 (by decide) (hts (.fieldLink RX4 41 "StateKeeperModel" "n" "I") (List.mem_of_getElem? (i := 1) rfl)) (fun _ h9 => h9) rfl dX4_differs_30 ?_
          refine lv_icmp_ge (tgt := 66) hx hb dX4_differs_33 (by decide) (fun c1 => absurd c1 (nI_ge (by omega) (by omega))) (fun c1 => ?_)
          refine lv_aload_n hx hb dX4_differs_36 rfl (lv_at hl 2 rfl) ?_
          refine va_get (D := D) (ci := 4) (v := .ref (u 1)) (C := RX4) (T := TX4) (N := 18) hx hb hts hiX4 hown hK hP 0 rfl rfl 2 (by decide) (hts (.fieldLink RX4 7 "StateKeeperModel" "cells" "[F") (List.mem_of_getElem? (i := 2) rfl)) (fun _ h9 => h9) rfl dX4_differs_37 ?_
          refine lv_iload_n hx hb dX4_differs_40 rfl (lv_at hl 0 rfl) ?_
          refine lz_fald hx hb hK hP 1 0 rfl rfl (by omega) (by omega) dX4_differs_41 ?_
          refine lv_aload_n hx hb dX4_differs_42 rfl (lv_at hl 2 rfl) ?_
          refine va_get (D := D) (ci := 4) (v := .ref (u 10)) (C := RX4) (T := TX4) (N := 18) hx hb hts hiX4 hown hK hP 0 rfl rfl 17 (by decide) (hts (.fieldLink RX4 38 "StateKeeperModel" "keptCells" "[F") (List.mem_of_getElem? (i := 3) rfl)) (fun _ h9 => h9) rfl dX4_differs_43 ?_
          refine lv_sipush (v := nI 256) hx hb dX4_differs_46 (by decide) ?_
          refine lv_iload_n hx hb dX4_differs_49 rfl (lv_at hl 1 rfl) ?_
          refine lv_imul hx hb dX4_differs_50 ?_
          refine lz_i (pk_mul _ _) ?_
          refine lv_iload_n hx hb dX4_differs_51 rfl (lv_at hl 0 rfl) ?_
          refine lv_iadd hx hb dX4_differs_52 ?_
          refine lz_i (nI_add _ _) ?_
          refine lz_fald hx hb hK hP 10 0 rfl rfl (by omega) (by omega) dX4_differs_53 ?_
          refine lz_f (y := ee.2 i) ((hks j ee hj).2 i (by omega)) ?_
          refine lv_fcmp hx hb dX4_differs_54 ?_
          refine lv_if_eq (tgt := 60) hx hb dX4_differs_55 (by decide) (fun c_9 => ?_) (fun c_9 => ?_)
          · have e9 : dif (sc x) ee.2 (r + 1) i = dif (sc x) ee.2 r (i + 1) := if_pos ((fl_eql _ _).mp c_9)
            refine lv_iinc (v := nI (i + 1)) (lv' := [(3, .int (nI (i + 1))), (2, .int (nI j)), (0, .ref (u 0)), (1, .int z)]) hx hb dX4_differs_60 hl (k := 0) rfl (nI_add _ 1) (by decide) rfl (fun ls hl => ?_)
            refine lv_goto (tgt := 28) hx hb dX4_differs_63 (by decide) ?_
            exact ih (i + 1) (by omega) (e9.symm.trans h2) ls (lv_sub hl [0, 1, 2, 3] rfl)
          · have e9 : dif (sc x) ee.2 (r + 1) i = nI i := if_neg (fun q => c_9 ((fl_eql _ _).mpr q))
            refine lv_iload_n hx hb dX4_differs_58 rfl (lv_at hl 0 rfl) ?_
            exact W.iret hx hb hr (fun t9 ht9 _ => ⟨⟨_, [((u 0), .inr (4, [.int (nI 0), .int (nI n), .ref (u 1), .int (nI (sT x)), .int (nI ev), .int (sd x), .int (nI R.length), .ref (u 2), .ref (u 3), .ref (u 4), .int (nI ((sL x).length)), .ref (u 5), .ref (u 6), .ref (u 7), .ref (u 8), .int (nI ((sS x).length)), .ref (u 9), .ref (u 10)])), ((u 1), .inl (cF, 256, .inr (.inr (.inl (sc x))))), ((u 2), .inl (cI, 64, .inl r1)), ((u 3), .inl (cI, 64, .inl r2)), ((u 4), .inl (cF, 64, .inr (.inr (.inl r3)))), ((u 5), .inl (cI, 512, .inl f1)), ((u 6), .inl (cI, 512, .inl f2)), ((u 7), .inl (cI, 512, .inl f3)), ((u 8), .inl (cF, 512, .inr (.inr (.inl f4)))), ((u 9), .inl (cI, 16, .inl k1)), ((u 10), .inl (cF, 4096, .inr (.inr (.inl kc))))], rfl, ⟨0, hk9, fun _ => ⟨e9.symm.trans h2, hw9⟩, fun q => absurd rfl q⟩, by show va_P D vwCl _ t9.heap; rw [ht9]; exact hP⟩, hS.F ht9⟩) hS.2.2 dX4_differs_59
      exact loop n 0 (by omega) (by rw [hsg]) ls (lv_sub hl [0, 1, 2, 3] rfl)
    · have hk0 : ¬ k9 = 0 := bz_0 hb9 c_7
      refine lv_iconst (v := nI 0) hx hb dX4_differs_24 (by decide) ?_
      exact W.iret hx hb hr (fun t9 ht9 _ => ⟨⟨_, w1, rfl, ⟨k9, hk9, fun q => absurd q hk0, fun _ => hw9⟩, by show va_P D vwCl _ t9.heap; rw [ht9]; exact hP⟩, hS.F ht9⟩) hS.2.2 dX4_differs_25

set_option maxRecDepth 100000 in
set_option maxHeartbeats 4000000 in
/-- snapshot(k) -/
theorem c_X4_snapshot {z : Int32} (hw : WM cI cF u n ev th R x w) (hx0 : Ok n ev R x) : Met l yX4_snapshot wsX4_snapshot (rmk 3 0 0) (pcW l D cI cF cQ aT [.ref (u 0), .int z] w sz) (va_Qi (fun (r : Int32) (w1 : va_W) => ∃ k, cdR (0 ≤ z.toInt ∧ z.toInt < ((sS x).length : Int)) True True k ∧ (k = 0 → r = (snv (sS x) (tn z)) ∧ WM cI cF u n ev (nI k) R x w1) ∧ (k ≠ 0 → WM cI cF u n ev (nI k) R x w1)) (fun w1 t => va_P D vwCl w1 t.heap) (va_A w sz)) 0 0 (va_A w sz) := by
  obtain ⟨r1, r2, r3, f1, f2, f3, f4, k1, kc, hdr, hrec, hks, rfl⟩ := id hw
  refine lz_ofM (Qf := fun A => va_Qi (fun (r : Int32) (w1 : va_W) => ∃ k, cdR (0 ≤ z.toInt ∧ z.toInt < ((sS x).length : Int)) True True k ∧ (k = 0 → r = (snv (sS x) (tn z)) ∧ WM cI cF u n ev (nI k) R x w1) ∧ (k ≠ 0 → WM cI cF u n ev (nI k) R x w1)) (fun w1 t => va_P D vwCl w1 t.heap) A) (cc := cX4_snapshot) (maxL := 2) (ret := (some .int)) (by decide) rfl (Nat.le_of_ble_eq_true rfl) ?_
  intro p e s m below meth c A hAe hsz hx hb hr hlk hin hC hP hD hS ls hl
  clear hAe
  have hts := hC.1.2.2.2.2
  have hown : s.vm.findClass RX4 = some m.cls := hC.1.2.2.2.1
  have hml := hC.1.2.2.1
  have hA := hC.2.1
  have hK := hC.2.2.2.1
  have hnm := hC.2.2.2.2.1
  have hnf := hC.2.2.2.2.2.1
  have hiX4 : ∀ w ∈ u_ws RX4 TX4 18, w ∈ wsX4_snapshot := fun _ h => List.mem_cons_of_mem _ (List.mem_append_right _ h)
  have hl : lv_has ls 2 [(0, .ref (u 0)), (1, .int z)] := hl
  have hn9 := hx0.1.2
  have hn1 := hx0.1.1
  have hev9 := hx0.2.1
  have hR9 : dIn n R := hx0.2.2.1
  have hcf : cfin (sc x) := hx0.2.2.2.1
  have hT9 : sT x < 2 ^ 29 := hx0.2.2.2.2.1
  have hL9 : rIn n (sL x) := hx0.2.2.2.2.2.1
  have hS9 : sGood (sS x) := hx0.2.2.2.2.2.2.1
  have hL8 := hL9.1
  have hS8 := hS9.2.1
  have hR8 := hR9.1
  have j1 : ∀ b1 : Int32, bz (0 ≤ z.toInt ∧ z.toInt < ((sS x).length : Int)) b1 → W p l e (rmk 3 0 0) s m [.ref (u 0), .int z].toArray below meth c s.heap [] 0 0 (MQ below (va_Qi (fun (r : Int32) (w1 : va_W) => ∃ k, cdR (0 ≤ z.toInt ∧ z.toInt < ((sS x).length : Int)) True True k ∧ (k = 0 → r = (snv (sS x) (tn z)) ∧ WM cI cF u n ev (nI k) R x w1) ∧ (k ≠ 0 → WM cI cF u n ev (nI k) R x w1)) (fun w1 t => va_P D vwCl w1 t.heap) A) [.ref (u 0), .int z].toArray s 0 0 A) (F0 m 18 ls [.int b1, .ref (u 0)]) := by
    intro b1 h1
    refine lv_iconst (v := nI 1) hx hb dX4_snapshot_18 (by decide) ?_
    refine lv_iconst (v := nI 1) hx hb dX4_snapshot_19 (by decide) ?_
    refine lz_cMi0 (lz_runV (C := RX4) (As := [.int b1, .int (nI 1), .int (nI 1)]) (rest := []) hC hS hl (c_X4_goes h1 (Or.inl ⟨trivial, rfl⟩ : bz True (nI 1)) (Or.inl ⟨trivial, rfl⟩ : bz True (nI 1)) hw) (cwV 3 hts gX4_snapshot_X4_goes rfl rfl rfl (by decide +kernel) ⟨Nat.le_of_ble_eq_true rfl, Nat.le_of_ble_eq_true rfl⟩) hP hD (va_recv hK hP (ci := 4) (q0 := 0) rfl rfl) rfl rfl (Nat.le_of_ble_eq_true rfl) dX4_snapshot_20 ⟨Nat.le_of_ble_eq_true rfl, Nat.le_of_ble_eq_true rfl⟩) hD hS hA (fun r w1 h => by obtain ⟨k, -, -, h⟩ := h; exact h.ad2 hw) (fun r_1 w1 H locs hpo hP hD hS => ?_)
    obtain ⟨k9, hk9, hb9, hw9⟩ := hpo
    refine lv_if_eq (tgt := 35) hx hb dX4_snapshot_23 (by decide) (fun c_2 => ?_) (fun c_2 => ?_)
    · have hk0 : ¬ k9 = 0 := bz_0 hb9 c_2
      refine lv_iconst (v := nI 0) hx hb dX4_snapshot_35 (by decide) ?_
      exact W.iret hx hb hr (fun t9 ht9 _ => ⟨⟨_, w1, rfl, ⟨k9, hk9, fun q => absurd q hk0, fun _ => hw9⟩, by show va_P D vwCl _ t9.heap; rw [ht9]; exact hP⟩, hS.F ht9⟩) hS.2.2 dX4_snapshot_36
    · have hk0 : k9 = 0 := bz_1 hb9 c_2
      subst hk0
      have hpp := cdR_0 hk9 rfl
      obtain ⟨r1, r2, r3, f1, f2, f3, f4, k1, kc, hdr, hrec, hks, rfl⟩ := id hw9
      have hP : va_P D vwCl ([((u 0), .inr (4, [.int (nI 0), .int (nI n), .ref (u 1), .int (nI (sT x)), .int (nI ev), .int (sd x), .int (nI R.length), .ref (u 2), .ref (u 3), .ref (u 4), .int (nI ((sL x).length)), .ref (u 5), .ref (u 6), .ref (u 7), .ref (u 8), .int (nI ((sS x).length)), .ref (u 9), .ref (u 10)])), ((u 1), .inl (cF, 256, .inr (.inr (.inl (sc x))))), ((u 2), .inl (cI, 64, .inl r1)), ((u 3), .inl (cI, 64, .inl r2)), ((u 4), .inl (cF, 64, .inr (.inr (.inl r3)))), ((u 5), .inl (cI, 512, .inl f1)), ((u 6), .inl (cI, 512, .inl f2)), ((u 7), .inl (cI, 512, .inl f3)), ((u 8), .inl (cF, 512, .inr (.inr (.inl f4)))), ((u 9), .inl (cI, 16, .inl k1)), ((u 10), .inl (cF, 4096, .inr (.inr (.inl kc))))]) H := hP
      have hD : va_D A ([((u 0), .inr (4, [.int (nI 0), .int (nI n), .ref (u 1), .int (nI (sT x)), .int (nI ev), .int (sd x), .int (nI R.length), .ref (u 2), .ref (u 3), .ref (u 4), .int (nI ((sL x).length)), .ref (u 5), .ref (u 6), .ref (u 7), .ref (u 8), .int (nI ((sS x).length)), .ref (u 9), .ref (u 10)])), ((u 1), .inl (cF, 256, .inr (.inr (.inl (sc x))))), ((u 2), .inl (cI, 64, .inl r1)), ((u 3), .inl (cI, 64, .inl r2)), ((u 4), .inl (cF, 64, .inr (.inr (.inl r3)))), ((u 5), .inl (cI, 512, .inl f1)), ((u 6), .inl (cI, 512, .inl f2)), ((u 7), .inl (cI, 512, .inl f3)), ((u 8), .inl (cF, 512, .inr (.inr (.inl f4)))), ((u 9), .inl (cI, 16, .inl k1)), ((u 10), .inl (cF, 4096, .inr (.inr (.inl kc))))]) := hD
      obtain ⟨z0, hz8, rfl, hz⟩ := iz_nat hpp.1.1
      obtain ⟨ee, hj⟩ : ∃ ee, (sS x)[z0]? = some ee := ⟨_, List.getElem?_eq_getElem (by omega)⟩
      have hl : lv_has ls 2 [(0, .ref (u 0)), (1, .int (nI z0))] := hl
      refine lv_aload_n hx hb dX4_snapshot_26 rfl (lv_at hl 0 rfl) ?_
      refine va_get (D := D) (ci := 4) (v := .ref (u 9)) (C := RX4) (T := TX4) (N := 18) hx hb hts hiX4 hown hK hP 0 rfl rfl 16 (by decide) (hts (.fieldLink RX4 35 "StateKeeperModel" "keptSteps" "[I") (List.mem_of_getElem? (i := 2) rfl)) (fun _ h9 => h9) rfl dX4_snapshot_27 ?_
      refine lv_iload_n hx hb dX4_snapshot_30 rfl (lv_at hl 1 rfl) ?_
      refine lz_iald hx hb hK hP 9 1 rfl rfl (by omega) (by omega) dX4_snapshot_31 ?_
      refine lz_i (y := nI ee.1) (hks z0 ee hj).1 ?_
      refine lv_goto (tgt := 36) hx hb dX4_snapshot_32 (by decide) ?_
      exact W.iret hx hb hr (fun t9 ht9 _ => ⟨⟨_, [((u 0), .inr (4, [.int (nI 0), .int (nI n), .ref (u 1), .int (nI (sT x)), .int (nI ev), .int (sd x), .int (nI R.length), .ref (u 2), .ref (u 3), .ref (u 4), .int (nI ((sL x).length)), .ref (u 5), .ref (u 6), .ref (u 7), .ref (u 8), .int (nI ((sS x).length)), .ref (u 9), .ref (u 10)])), ((u 1), .inl (cF, 256, .inr (.inr (.inl (sc x))))), ((u 2), .inl (cI, 64, .inl r1)), ((u 3), .inl (cI, 64, .inl r2)), ((u 4), .inl (cF, 64, .inr (.inr (.inl r3)))), ((u 5), .inl (cI, 512, .inl f1)), ((u 6), .inl (cI, 512, .inl f2)), ((u 7), .inl (cI, 512, .inl f3)), ((u 8), .inl (cF, 512, .inr (.inr (.inl f4)))), ((u 9), .inl (cI, 16, .inl k1)), ((u 10), .inl (cF, 4096, .inr (.inr (.inl kc))))], rfl, ⟨0, hk9, fun _ => ⟨by unfold snv; rw [tn_nI hz8, hj], hw9⟩, fun q => absurd rfl q⟩, by show va_P D vwCl _ t9.heap; rw [ht9]; exact hP⟩, hS.F ht9⟩) hS.2.2 dX4_snapshot_36
  refine lv_aload_n hx hb dX4_snapshot_0 rfl (lv_at hl 0 rfl) ?_
  refine lv_iload_n hx hb dX4_snapshot_1 rfl (lv_at hl 1 rfl) ?_
  refine lv_if_lt (tgt := 17) hx hb dX4_snapshot_2 (by decide) (fun c_3 => ?_) (fun c_3 => ?_)
  · refine lv_iconst (v := nI 0) hx hb dX4_snapshot_17 (by decide) ?_
    exact j1 _ (Or.inr ⟨fun q => absurd (iz_lt0.mp c_3) (by omega), rfl⟩)
  · have e1 : 0 ≤ z.toInt := by have := mt iz_lt0.mpr c_3; omega
    refine lv_iload_n hx hb dX4_snapshot_5 rfl (lv_at hl 1 rfl) ?_
    refine lv_aload_n hx hb dX4_snapshot_6 rfl (lv_at hl 0 rfl) ?_
    refine va_get (D := D) (ci := 4) (v := .int (nI ((sS x).length))) (C := RX4) (T := TX4) (N := 18) hx hb hts hiX4 hown hK hP 0 rfl rfl 15 (by decide) (hts (.fieldLink RX4 101 "StateKeeperModel" "snapshots" "I") (List.mem_of_getElem? (i := 1) rfl)) (fun _ h9 => h9) rfl dX4_snapshot_7 ?_
    refine lv_icmp_ge (tgt := 17) hx hb dX4_snapshot_10 (by decide) (fun c_4 => ?_) (fun c_4 => ?_)
    · refine lv_iconst (v := nI 0) hx hb dX4_snapshot_17 (by decide) ?_
      exact j1 _ (Or.inr ⟨fun q => absurd ((iz_le_l (by omega)).mp c_4) (by omega), rfl⟩)
    · have e2 : z.toInt < ((sS x).length : Int) := by have := mt (iz_le_l (a := (sS x).length) (by omega)).mpr c_4; omega
      refine lv_iconst (v := nI 1) hx hb dX4_snapshot_13 (by decide) ?_
      refine lv_goto (tgt := 18) hx hb dX4_snapshot_14 (by decide) ?_
      exact j1 _ (Or.inl ⟨⟨e1, e2⟩, rfl⟩)

set_option maxRecDepth 100000 in
set_option maxHeartbeats 4000000 in
/-- record(step, k, what) -/
theorem c_X4_record {z q i : Int32} (hw : WM cI cF u n ev th R x w) (hx0 : Ok n ev R x) : Met l yX4_record wsX4_record (rmk 3 0 0) (pcW l D cI cF cQ aT [.ref (u 0), .int z, .int q, .int i] w sz) (va_Qi (fun (r : Int32) (w1 : va_W) => ∃ k, cdR ((0 ≤ q.toInt ∧ q.toInt < (cq (sL x) z.toInt : Int)) ∧ (i.toInt = 0 ∨ i.toInt = 1)) True True k ∧ (k = 0 → r = (if i.toInt = 0 then nI (rget (sL x) z.toInt (tn q)).2.1 else nI (rget (sL x) z.toInt (tn q)).2.2.1) ∧ WM cI cF u n ev (nI k) R x w1) ∧ (k ≠ 0 → WM cI cF u n ev (nI k) R x w1)) (fun w1 t => va_P D vwCl w1 t.heap) (va_A w sz)) 0 0 (va_A w sz) := by
  obtain ⟨r1, r2, r3, f1, f2, f3, f4, k1, kc, hdr, hrec, hks, rfl⟩ := id hw
  refine lz_ofM (Qf := fun A => va_Qi (fun (r : Int32) (w1 : va_W) => ∃ k, cdR ((0 ≤ q.toInt ∧ q.toInt < (cq (sL x) z.toInt : Int)) ∧ (i.toInt = 0 ∨ i.toInt = 1)) True True k ∧ (k = 0 → r = (if i.toInt = 0 then nI (rget (sL x) z.toInt (tn q)).2.1 else nI (rget (sL x) z.toInt (tn q)).2.2.1) ∧ WM cI cF u n ev (nI k) R x w1) ∧ (k ≠ 0 → WM cI cF u n ev (nI k) R x w1)) (fun w1 t => va_P D vwCl w1 t.heap) A) (cc := cX4_record) (maxL := 5) (ret := (some .int)) (by decide) rfl (Nat.le_of_ble_eq_true rfl) ?_
  intro p e s m below meth c A hAe hsz hx hb hr hlk hin hC hP hD hS ls hl
  clear hAe
  have hts := hC.1.2.2.2.2
  have hown : s.vm.findClass RX4 = some m.cls := hC.1.2.2.2.1
  have hml := hC.1.2.2.1
  have hA := hC.2.1
  have hK := hC.2.2.2.1
  have hnm := hC.2.2.2.2.1
  have hnf := hC.2.2.2.2.2.1
  have hiX4 : ∀ w ∈ u_ws RX4 TX4 18, w ∈ wsX4_record := fun _ h => List.mem_cons_of_mem _ (List.mem_append_right _ h)
  have hl : lv_has ls 5 [(0, .ref (u 0)), (1, .int z), (2, .int q), (3, .int i)] := hl
  have hn9 := hx0.1.2
  have hn1 := hx0.1.1
  have hev9 := hx0.2.1
  have hR9 : dIn n R := hx0.2.2.1
  have hcf : cfin (sc x) := hx0.2.2.2.1
  have hT9 : sT x < 2 ^ 29 := hx0.2.2.2.2.1
  have hL9 : rIn n (sL x) := hx0.2.2.2.2.2.1
  have hS9 : sGood (sS x) := hx0.2.2.2.2.2.2.1
  have hL8 := hL9.1
  have hS8 := hS9.2.1
  have hR8 := hR9.1
  refine lv_aload_n hx hb dX4_record_0 rfl (lv_at hl 0 rfl) ?_
  refine lv_iload_n hx hb dX4_record_1 rfl (lv_at hl 1 rfl) ?_
  refine lv_iload_n hx hb dX4_record_2 rfl (lv_at hl 2 rfl) ?_
  refine vp_callSi (lz_runV (C := RX4) (As := [.int z, .int q]) (rest := []) hC hS hl (c_X4_find hL9 hw) (cwV 2 hts gX4_record_X4_find rfl rfl rfl (by decide +kernel) ⟨Nat.le_of_ble_eq_true rfl, Nat.le_of_ble_eq_true rfl⟩) hP hD (va_recv hK hP (ci := 4) (q0 := 0) rfl rfl) rfl rfl (Nat.le_of_ble_eq_true rfl) dX4_record_3 ⟨Nat.le_of_ble_eq_true rfl, Nat.le_of_ble_eq_true rfl⟩).run (fun x1 hx1 => ?_)
  rcases hx1 with ⟨hck, j, hj, rfl⟩ | ⟨hck, rfl⟩
  · have hjl : j < (sL x).length := (List.getElem?_eq_some_iff.mp hj).1
    refine lv_istore (lv' := [(4, .int (nI j)), (0, .ref (u 0)), (1, .int z), (2, .int q), (3, .int i)]) hx hb dX4_record_6 hl (by decide) rfl (fun ls hl => ?_)
    have j1 : ∀ b1 : Int32, bz ((0 ≤ q.toInt ∧ q.toInt < (cq (sL x) z.toInt : Int)) ∧ (i.toInt = 0 ∨ i.toInt = 1)) b1 → W p l e (rmk 3 0 0) s m [.ref (u 0), .int z, .int q, .int i].toArray below meth c s.heap [] 0 0 (MQ below (va_Qi (fun (r : Int32) (w1 : va_W) => ∃ k, cdR ((0 ≤ q.toInt ∧ q.toInt < (cq (sL x) z.toInt : Int)) ∧ (i.toInt = 0 ∨ i.toInt = 1)) True True k ∧ (k = 0 → r = (if i.toInt = 0 then nI (rget (sL x) z.toInt (tn q)).2.1 else nI (rget (sL x) z.toInt (tn q)).2.2.1) ∧ WM cI cF u n ev (nI k) R x w1) ∧ (k ≠ 0 → WM cI cF u n ev (nI k) R x w1)) (fun w1 t => va_P D vwCl w1 t.heap) A) [.ref (u 0), .int z, .int q, .int i].toArray s 0 0 A) (F0 m 28 ls [.int b1, .ref (u 0)]) := by
      intro b1 h1
      refine lv_iconst (v := nI 1) hx hb dX4_record_28 (by decide) ?_
      refine lv_iconst (v := nI 1) hx hb dX4_record_29 (by decide) ?_
      refine lz_cMi0 (lz_runV (C := RX4) (As := [.int b1, .int (nI 1), .int (nI 1)]) (rest := []) hC hS hl (c_X4_goes h1 (Or.inl ⟨trivial, rfl⟩ : bz True (nI 1)) (Or.inl ⟨trivial, rfl⟩ : bz True (nI 1)) hw) (cwV 3 hts gX4_record_X4_goes rfl rfl rfl (by decide +kernel) ⟨Nat.le_of_ble_eq_true rfl, Nat.le_of_ble_eq_true rfl⟩) hP hD (va_recv hK hP (ci := 4) (q0 := 0) rfl rfl) rfl rfl (Nat.le_of_ble_eq_true rfl) dX4_record_30 ⟨Nat.le_of_ble_eq_true rfl, Nat.le_of_ble_eq_true rfl⟩) hD hS hA (fun r w1 h => by obtain ⟨k, -, -, h⟩ := h; exact h.ad2 hw) (fun r_1 w1 H locs hpo hP hD hS => ?_)
      obtain ⟨k9, hk9, hb9, hw9⟩ := hpo
      refine lv_if_ne (tgt := 38) hx hb dX4_record_33 (by decide) (fun c_2 => ?_) (fun c_2 => ?_)
      · have hk0 : k9 = 0 := bz_1 hb9 c_2
        subst hk0
        have hpp := cdR_0 hk9 rfl
        obtain ⟨r1, r2, r3, f1, f2, f3, f4, k1, kc, hdr, hrec, hks, rfl⟩ := id hw9
        have hP : va_P D vwCl ([((u 0), .inr (4, [.int (nI 0), .int (nI n), .ref (u 1), .int (nI (sT x)), .int (nI ev), .int (sd x), .int (nI R.length), .ref (u 2), .ref (u 3), .ref (u 4), .int (nI ((sL x).length)), .ref (u 5), .ref (u 6), .ref (u 7), .ref (u 8), .int (nI ((sS x).length)), .ref (u 9), .ref (u 10)])), ((u 1), .inl (cF, 256, .inr (.inr (.inl (sc x))))), ((u 2), .inl (cI, 64, .inl r1)), ((u 3), .inl (cI, 64, .inl r2)), ((u 4), .inl (cF, 64, .inr (.inr (.inl r3)))), ((u 5), .inl (cI, 512, .inl f1)), ((u 6), .inl (cI, 512, .inl f2)), ((u 7), .inl (cI, 512, .inl f3)), ((u 8), .inl (cF, 512, .inr (.inr (.inl f4)))), ((u 9), .inl (cI, 16, .inl k1)), ((u 10), .inl (cF, 4096, .inr (.inr (.inl kc))))]) H := hP
        have hD : va_D A ([((u 0), .inr (4, [.int (nI 0), .int (nI n), .ref (u 1), .int (nI (sT x)), .int (nI ev), .int (sd x), .int (nI R.length), .ref (u 2), .ref (u 3), .ref (u 4), .int (nI ((sL x).length)), .ref (u 5), .ref (u 6), .ref (u 7), .ref (u 8), .int (nI ((sS x).length)), .ref (u 9), .ref (u 10)])), ((u 1), .inl (cF, 256, .inr (.inr (.inl (sc x))))), ((u 2), .inl (cI, 64, .inl r1)), ((u 3), .inl (cI, 64, .inl r2)), ((u 4), .inl (cF, 64, .inr (.inr (.inl r3)))), ((u 5), .inl (cI, 512, .inl f1)), ((u 6), .inl (cI, 512, .inl f2)), ((u 7), .inl (cI, 512, .inl f3)), ((u 8), .inl (cF, 512, .inr (.inr (.inl f4)))), ((u 9), .inl (cI, 16, .inl k1)), ((u 10), .inl (cF, 4096, .inr (.inr (.inl kc))))]) := hD
        refine lv_iload_n hx hb dX4_record_38 rfl (lv_at hl 4 rfl) ?_
        refine lv_if_ne (tgt := 52) hx hb dX4_record_39 (by decide) (fun c_3 => ?_) (fun c_3 => ?_)
        · have hi0 : ¬ i.toInt = 0 := fun q9 => c_3 (Int32.toInt_inj.mp (q9.trans iz_0.symm))
          refine lv_aload_n hx hb dX4_record_52 rfl (lv_at hl 1 rfl) ?_
          refine va_get (D := D) (ci := 4) (v := .ref (u 7)) (C := RX4) (T := TX4) (N := 18) hx hb hts hiX4 hown hK hP 0 rfl rfl 13 (by decide) (hts (.fieldLink RX4 29 "StateKeeperModel" "ways" "[I") (List.mem_of_getElem? (i := 2) rfl)) (fun _ h9 => h9) rfl dX4_record_53 ?_
          refine lv_iload hx hb dX4_record_56 (lv_at hl 0 rfl) ?_
          refine lz_iald hx hb hK hP 7 1 rfl rfl (by omega) (by omega) dX4_record_58 ?_
          refine lz_i (y := nI (rget (sL x) z.toInt (tn q)).2.2.1) (hrec _ _ hj).2.2.1 ?_
          exact W.iret hx hb hr (fun t9 ht9 _ => ⟨⟨_, [((u 0), .inr (4, [.int (nI 0), .int (nI n), .ref (u 1), .int (nI (sT x)), .int (nI ev), .int (sd x), .int (nI R.length), .ref (u 2), .ref (u 3), .ref (u 4), .int (nI ((sL x).length)), .ref (u 5), .ref (u 6), .ref (u 7), .ref (u 8), .int (nI ((sS x).length)), .ref (u 9), .ref (u 10)])), ((u 1), .inl (cF, 256, .inr (.inr (.inl (sc x))))), ((u 2), .inl (cI, 64, .inl r1)), ((u 3), .inl (cI, 64, .inl r2)), ((u 4), .inl (cF, 64, .inr (.inr (.inl r3)))), ((u 5), .inl (cI, 512, .inl f1)), ((u 6), .inl (cI, 512, .inl f2)), ((u 7), .inl (cI, 512, .inl f3)), ((u 8), .inl (cF, 512, .inr (.inr (.inl f4)))), ((u 9), .inl (cI, 16, .inl k1)), ((u 10), .inl (cF, 4096, .inr (.inr (.inl kc))))], rfl, ⟨0, hk9, fun _ => ⟨by rw [if_neg hi0], hw9⟩, fun q => absurd rfl q⟩, by show va_P D vwCl _ t9.heap; rw [ht9]; exact hP⟩, hS.F ht9⟩) hS.2.2 dX4_record_59
        · have hi0 : i.toInt = 0 := by rw [show i = 0 from c_3]; rfl
          refine lv_aload_n hx hb dX4_record_42 rfl (lv_at hl 1 rfl) ?_
          refine va_get (D := D) (ci := 4) (v := .ref (u 6)) (C := RX4) (T := TX4) (N := 18) hx hb hts hiX4 hown hK hP 0 rfl rfl 12 (by decide) (hts (.fieldLink RX4 26 "StateKeeperModel" "which" "[I") (List.mem_of_getElem? (i := 1) rfl)) (fun _ h9 => h9) rfl dX4_record_43 ?_
          refine lv_iload hx hb dX4_record_46 (lv_at hl 0 rfl) ?_
          refine lz_iald hx hb hK hP 6 1 rfl rfl (by omega) (by omega) dX4_record_48 ?_
          refine lz_i (y := nI (rget (sL x) z.toInt (tn q)).2.1) (hrec _ _ hj).2.1 ?_
          refine lv_goto (tgt := 59) hx hb dX4_record_49 (by decide) ?_
          exact W.iret hx hb hr (fun t9 ht9 _ => ⟨⟨_, [((u 0), .inr (4, [.int (nI 0), .int (nI n), .ref (u 1), .int (nI (sT x)), .int (nI ev), .int (sd x), .int (nI R.length), .ref (u 2), .ref (u 3), .ref (u 4), .int (nI ((sL x).length)), .ref (u 5), .ref (u 6), .ref (u 7), .ref (u 8), .int (nI ((sS x).length)), .ref (u 9), .ref (u 10)])), ((u 1), .inl (cF, 256, .inr (.inr (.inl (sc x))))), ((u 2), .inl (cI, 64, .inl r1)), ((u 3), .inl (cI, 64, .inl r2)), ((u 4), .inl (cF, 64, .inr (.inr (.inl r3)))), ((u 5), .inl (cI, 512, .inl f1)), ((u 6), .inl (cI, 512, .inl f2)), ((u 7), .inl (cI, 512, .inl f3)), ((u 8), .inl (cF, 512, .inr (.inr (.inl f4)))), ((u 9), .inl (cI, 16, .inl k1)), ((u 10), .inl (cF, 4096, .inr (.inr (.inl kc))))], rfl, ⟨0, hk9, fun _ => ⟨by rw [if_pos hi0], hw9⟩, fun q => absurd rfl q⟩, by show va_P D vwCl _ t9.heap; rw [ht9]; exact hP⟩, hS.F ht9⟩) hS.2.2 dX4_record_59
      · have hk0 : ¬ k9 = 0 := bz_0 hb9 c_2
        refine lv_iconst (v := nI 0) hx hb dX4_record_36 (by decide) ?_
        exact W.iret hx hb hr (fun t9 ht9 _ => ⟨⟨_, w1, rfl, ⟨k9, hk9, fun q => absurd q hk0, fun _ => hw9⟩, by show va_P D vwCl _ t9.heap; rw [ht9]; exact hP⟩, hS.F ht9⟩) hS.2.2 dX4_record_37
    refine lv_aload_n hx hb dX4_record_8 rfl (lv_at hl 1 rfl) ?_
    refine lv_iload hx hb dX4_record_9 (lv_at hl 0 rfl) ?_
    refine lv_if_lt (tgt := 27) hx hb dX4_record_11 (by decide) (fun c_4 => absurd c_4 (fun q => absurd (iz_lt0.mp q) (by rw [nI_toInt (by omega)]; omega))) (fun c_4 => ?_)
    refine lv_iload_n hx hb dX4_record_14 rfl (lv_at hl 4 rfl) ?_
    refine lv_if_eq (tgt := 23) hx hb dX4_record_15 (by decide) (fun c_5 => ?_) (fun c_5 => ?_)
    · refine lv_iconst (v := nI 1) hx hb dX4_record_23 (by decide) ?_
      refine lv_goto (tgt := 28) hx hb dX4_record_24 (by decide) ?_
      exact j1 _ (Or.inl ⟨⟨hck, Or.inl (by rw [show i = 0 from c_5]; rfl)⟩, rfl⟩)
    · have hi0 : ¬ i.toInt = 0 := fun q9 => c_5 (Int32.toInt_inj.mp (q9.trans iz_0.symm))
      refine lv_iload_n hx hb dX4_record_18 rfl (lv_at hl 4 rfl) ?_
      refine lv_iconst (v := nI 1) hx hb dX4_record_19 (by decide) ?_
      refine lv_icmp_ne (tgt := 27) hx hb dX4_record_20 (by decide) (fun c_6 => ?_) (fun c_6 => ?_)
      · refine lv_iconst (v := nI 0) hx hb dX4_record_27 (by decide) ?_
        exact j1 _ (Or.inr ⟨fun q9 => q9.2.elim hi0 (fun q8 => c_6 (Int32.toInt_inj.mp (q8.trans (show (1 : Int) = (nI 1).toInt by decide)))), rfl⟩)
      · refine lv_iconst (v := nI 1) hx hb dX4_record_23 (by decide) ?_
        refine lv_goto (tgt := 28) hx hb dX4_record_24 (by decide) ?_
        exact j1 _ (Or.inl ⟨⟨hck, Or.inr (by rw [c_6]; decide)⟩, rfl⟩)
  · refine lv_istore (lv' := [(4, .int (-1)), (0, .ref (u 0)), (1, .int z), (2, .int q), (3, .int i)]) hx hb dX4_record_6 hl (by decide) rfl (fun ls hl => ?_)
    refine lv_aload_n hx hb dX4_record_8 rfl (lv_at hl 1 rfl) ?_
    refine lv_iload hx hb dX4_record_9 (lv_at hl 0 rfl) ?_
    refine lv_if_lt (tgt := 27) hx hb dX4_record_11 (by decide) (fun c_7 => ?_) (fun c_7 => absurd (by decide) c_7)
    refine lv_iconst (v := nI 0) hx hb dX4_record_27 (by decide) ?_
    refine lv_iconst (v := nI 1) hx hb dX4_record_28 (by decide) ?_
    refine lv_iconst (v := nI 1) hx hb dX4_record_29 (by decide) ?_
    refine lz_cMi0 (lz_runV (C := RX4) (As := [.int (nI 0), .int (nI 1), .int (nI 1)]) (rest := []) hC hS hl (c_X4_goes (Or.inr ⟨fun q => hck q.1, rfl⟩ : bz ((0 ≤ q.toInt ∧ q.toInt < (cq (sL x) z.toInt : Int)) ∧ (i.toInt = 0 ∨ i.toInt = 1)) (nI 0)) (Or.inl ⟨trivial, rfl⟩ : bz True (nI 1)) (Or.inl ⟨trivial, rfl⟩ : bz True (nI 1)) hw) (cwV 3 hts gX4_record_X4_goes rfl rfl rfl (by decide +kernel) ⟨Nat.le_of_ble_eq_true rfl, Nat.le_of_ble_eq_true rfl⟩) hP hD (va_recv hK hP (ci := 4) (q0 := 0) rfl rfl) rfl rfl (Nat.le_of_ble_eq_true rfl) dX4_record_30 ⟨Nat.le_of_ble_eq_true rfl, Nat.le_of_ble_eq_true rfl⟩) hD hS hA (fun r w1 h => by obtain ⟨k, -, -, h⟩ := h; exact h.ad2 hw) (fun r_8 w1 H locs hpo hP hD hS => ?_)
    obtain ⟨k9, hk9, hb9, hw9⟩ := hpo
    refine lv_if_ne (tgt := 38) hx hb dX4_record_33 (by decide) (fun c_9 => ?_) (fun c_9 => ?_)
    · exact absurd (cdR_0 hk9 (bz_1 hb9 c_9)).1.1 hck
    · have hk0 : ¬ k9 = 0 := bz_0 hb9 c_9
      refine lv_iconst (v := nI 0) hx hb dX4_record_36 (by decide) ?_
      exact W.iret hx hb hr (fun t9 ht9 _ => ⟨⟨_, w1, rfl, ⟨k9, hk9, fun q => absurd q hk0, fun _ => hw9⟩, by show va_P D vwCl _ t9.heap; rw [ht9]; exact hP⟩, hS.F ht9⟩) hS.2.2 dX4_record_37

set_option maxRecDepth 100000 in
set_option maxHeartbeats 4000000 in
/-- recorded(step, k) -/
theorem c_X4_recorded {z q : Int32} (hw : WM cI cF u n ev th R x w) (hx0 : Ok n ev R x) : Met l yX4_recorded wsX4_recorded (rmk 3 0 0) (pcW l D cI cF cQ aT [.ref (u 0), .int z, .int q] w sz) (va_Qf (fun (r : UInt32) (w1 : va_W) => ∃ k, cdR (0 ≤ q.toInt ∧ q.toInt < (cq (sL x) z.toInt : Int)) True True k ∧ (k = 0 → r = ((rget (sL x) z.toInt (tn q)).2.2.2) ∧ WM cI cF u n ev (nI k) R x w1) ∧ (k ≠ 0 → WM cI cF u n ev (nI k) R x w1)) (fun w1 t => va_P D vwCl w1 t.heap) (va_A w sz)) 0 0 (va_A w sz) := by
  obtain ⟨r1, r2, r3, f1, f2, f3, f4, k1, kc, hdr, hrec, hks, rfl⟩ := id hw
  refine lz_ofM (Qf := fun A => va_Qf (fun (r : UInt32) (w1 : va_W) => ∃ k, cdR (0 ≤ q.toInt ∧ q.toInt < (cq (sL x) z.toInt : Int)) True True k ∧ (k = 0 → r = ((rget (sL x) z.toInt (tn q)).2.2.2) ∧ WM cI cF u n ev (nI k) R x w1) ∧ (k ≠ 0 → WM cI cF u n ev (nI k) R x w1)) (fun w1 t => va_P D vwCl w1 t.heap) A) (cc := cX4_recorded) (maxL := 4) (ret := (some .float)) (by decide) rfl (Nat.le_of_ble_eq_true rfl) ?_
  intro p e s m below meth c A hAe hsz hx hb hr hlk hin hC hP hD hS ls hl
  clear hAe
  have hts := hC.1.2.2.2.2
  have hown : s.vm.findClass RX4 = some m.cls := hC.1.2.2.2.1
  have hml := hC.1.2.2.1
  have hA := hC.2.1
  have hK := hC.2.2.2.1
  have hnm := hC.2.2.2.2.1
  have hnf := hC.2.2.2.2.2.1
  have hiX4 : ∀ w ∈ u_ws RX4 TX4 18, w ∈ wsX4_recorded := fun _ h => List.mem_cons_of_mem _ (List.mem_append_right _ h)
  have hl : lv_has ls 4 [(0, .ref (u 0)), (1, .int z), (2, .int q)] := hl
  have hn9 := hx0.1.2
  have hn1 := hx0.1.1
  have hev9 := hx0.2.1
  have hR9 : dIn n R := hx0.2.2.1
  have hcf : cfin (sc x) := hx0.2.2.2.1
  have hT9 : sT x < 2 ^ 29 := hx0.2.2.2.2.1
  have hL9 : rIn n (sL x) := hx0.2.2.2.2.2.1
  have hS9 : sGood (sS x) := hx0.2.2.2.2.2.2.1
  have hL8 := hL9.1
  have hS8 := hS9.2.1
  have hR8 := hR9.1
  refine lv_aload_n hx hb dX4_recorded_0 rfl (lv_at hl 0 rfl) ?_
  refine lv_iload_n hx hb dX4_recorded_1 rfl (lv_at hl 1 rfl) ?_
  refine lv_iload_n hx hb dX4_recorded_2 rfl (lv_at hl 2 rfl) ?_
  refine vp_callSi (lz_runV (C := RX4) (As := [.int z, .int q]) (rest := []) hC hS hl (c_X4_find hL9 hw) (cwV 2 hts gX4_recorded_X4_find rfl rfl rfl (by decide +kernel) ⟨Nat.le_of_ble_eq_true rfl, Nat.le_of_ble_eq_true rfl⟩) hP hD (va_recv hK hP (ci := 4) (q0 := 0) rfl rfl) rfl rfl (Nat.le_of_ble_eq_true rfl) dX4_recorded_3 ⟨Nat.le_of_ble_eq_true rfl, Nat.le_of_ble_eq_true rfl⟩).run (fun x1 hx1 => ?_)
  rcases hx1 with ⟨hck, j, hj, rfl⟩ | ⟨hck, rfl⟩
  · have hjl : j < (sL x).length := (List.getElem?_eq_some_iff.mp hj).1
    refine lv_istore_n (lv' := [(3, .int (nI j)), (0, .ref (u 0)), (1, .int z), (2, .int q)]) hx hb dX4_recorded_6 rfl hl (by decide) rfl (fun ls hl => ?_)
    refine lv_aload_n hx hb dX4_recorded_7 rfl (lv_at hl 1 rfl) ?_
    refine lv_iload_n hx hb dX4_recorded_8 rfl (lv_at hl 0 rfl) ?_
    refine lv_if_lt (tgt := 16) hx hb dX4_recorded_9 (by decide) (fun c_1 => absurd c_1 (fun q => absurd (iz_lt0.mp q) (by rw [nI_toInt (by omega)]; omega))) (fun c_1 => ?_)
    refine lv_iconst (v := nI 1) hx hb dX4_recorded_12 (by decide) ?_
    refine lv_goto (tgt := 17) hx hb dX4_recorded_13 (by decide) ?_
    refine lv_iconst (v := nI 1) hx hb dX4_recorded_17 (by decide) ?_
    refine lv_iconst (v := nI 1) hx hb dX4_recorded_18 (by decide) ?_
    refine lz_cMi0 (lz_runV (C := RX4) (As := [.int (nI 1), .int (nI 1), .int (nI 1)]) (rest := []) hC hS hl (c_X4_goes (Or.inl ⟨hck, rfl⟩ : bz ((0 ≤ q.toInt ∧ q.toInt < (cq (sL x) z.toInt : Int))) (nI 1)) (Or.inl ⟨trivial, rfl⟩ : bz True (nI 1)) (Or.inl ⟨trivial, rfl⟩ : bz True (nI 1)) hw) (cwV 3 hts gX4_recorded_X4_goes rfl rfl rfl (by decide +kernel) ⟨Nat.le_of_ble_eq_true rfl, Nat.le_of_ble_eq_true rfl⟩) hP hD (va_recv hK hP (ci := 4) (q0 := 0) rfl rfl) rfl rfl (Nat.le_of_ble_eq_true rfl) dX4_recorded_19 ⟨Nat.le_of_ble_eq_true rfl, Nat.le_of_ble_eq_true rfl⟩) hD hS hA (fun r w1 h => by obtain ⟨k, -, -, h⟩ := h; exact h.ad2 hw) (fun r_2 w1 H locs hpo hP hD hS => ?_)
    obtain ⟨k9, hk9, hb9, hw9⟩ := hpo
    refine lv_if_eq (tgt := 34) hx hb dX4_recorded_22 (by decide) (fun c_3 => ?_) (fun c_3 => ?_)
    · have hk0 : ¬ k9 = 0 := bz_0 hb9 c_3
      refine lv_fconst0 hx hb dX4_recorded_34 ?_
      exact W.fret hx hb hr (fun t9 ht9 _ => ⟨⟨_, w1, rfl, ⟨k9, hk9, fun q => absurd q hk0, fun _ => hw9⟩, by show va_P D vwCl _ t9.heap; rw [ht9]; exact hP⟩, hS.F ht9⟩) hS.2.2 dX4_recorded_35
    · have hk0 : k9 = 0 := bz_1 hb9 c_3
      subst hk0
      have hpp := cdR_0 hk9 rfl
      obtain ⟨r1, r2, r3, f1, f2, f3, f4, k1, kc, hdr, hrec, hks, rfl⟩ := id hw9
      have hP : va_P D vwCl ([((u 0), .inr (4, [.int (nI 0), .int (nI n), .ref (u 1), .int (nI (sT x)), .int (nI ev), .int (sd x), .int (nI R.length), .ref (u 2), .ref (u 3), .ref (u 4), .int (nI ((sL x).length)), .ref (u 5), .ref (u 6), .ref (u 7), .ref (u 8), .int (nI ((sS x).length)), .ref (u 9), .ref (u 10)])), ((u 1), .inl (cF, 256, .inr (.inr (.inl (sc x))))), ((u 2), .inl (cI, 64, .inl r1)), ((u 3), .inl (cI, 64, .inl r2)), ((u 4), .inl (cF, 64, .inr (.inr (.inl r3)))), ((u 5), .inl (cI, 512, .inl f1)), ((u 6), .inl (cI, 512, .inl f2)), ((u 7), .inl (cI, 512, .inl f3)), ((u 8), .inl (cF, 512, .inr (.inr (.inl f4)))), ((u 9), .inl (cI, 16, .inl k1)), ((u 10), .inl (cF, 4096, .inr (.inr (.inl kc))))]) H := hP
      have hD : va_D A ([((u 0), .inr (4, [.int (nI 0), .int (nI n), .ref (u 1), .int (nI (sT x)), .int (nI ev), .int (sd x), .int (nI R.length), .ref (u 2), .ref (u 3), .ref (u 4), .int (nI ((sL x).length)), .ref (u 5), .ref (u 6), .ref (u 7), .ref (u 8), .int (nI ((sS x).length)), .ref (u 9), .ref (u 10)])), ((u 1), .inl (cF, 256, .inr (.inr (.inl (sc x))))), ((u 2), .inl (cI, 64, .inl r1)), ((u 3), .inl (cI, 64, .inl r2)), ((u 4), .inl (cF, 64, .inr (.inr (.inl r3)))), ((u 5), .inl (cI, 512, .inl f1)), ((u 6), .inl (cI, 512, .inl f2)), ((u 7), .inl (cI, 512, .inl f3)), ((u 8), .inl (cF, 512, .inr (.inr (.inl f4)))), ((u 9), .inl (cI, 16, .inl k1)), ((u 10), .inl (cF, 4096, .inr (.inr (.inl kc))))]) := hD
      refine lv_aload_n hx hb dX4_recorded_25 rfl (lv_at hl 1 rfl) ?_
      refine va_get (D := D) (ci := 4) (v := .ref (u 8)) (C := RX4) (T := TX4) (N := 18) hx hb hts hiX4 hown hK hP 0 rfl rfl 14 (by decide) (hts (.fieldLink RX4 32 "StateKeeperModel" "values" "[F") (List.mem_of_getElem? (i := 1) rfl)) (fun _ h9 => h9) rfl dX4_recorded_26 ?_
      refine lv_iload_n hx hb dX4_recorded_29 rfl (lv_at hl 0 rfl) ?_
      refine lz_fald hx hb hK hP 8 0 rfl rfl (by omega) (by omega) dX4_recorded_30 ?_
      refine lz_f (y := (rget (sL x) z.toInt (tn q)).2.2.2) (hrec _ _ hj).2.2.2 ?_
      refine lv_goto (tgt := 35) hx hb dX4_recorded_31 (by decide) ?_
      exact W.fret hx hb hr (fun t9 ht9 _ => ⟨⟨_, [((u 0), .inr (4, [.int (nI 0), .int (nI n), .ref (u 1), .int (nI (sT x)), .int (nI ev), .int (sd x), .int (nI R.length), .ref (u 2), .ref (u 3), .ref (u 4), .int (nI ((sL x).length)), .ref (u 5), .ref (u 6), .ref (u 7), .ref (u 8), .int (nI ((sS x).length)), .ref (u 9), .ref (u 10)])), ((u 1), .inl (cF, 256, .inr (.inr (.inl (sc x))))), ((u 2), .inl (cI, 64, .inl r1)), ((u 3), .inl (cI, 64, .inl r2)), ((u 4), .inl (cF, 64, .inr (.inr (.inl r3)))), ((u 5), .inl (cI, 512, .inl f1)), ((u 6), .inl (cI, 512, .inl f2)), ((u 7), .inl (cI, 512, .inl f3)), ((u 8), .inl (cF, 512, .inr (.inr (.inl f4)))), ((u 9), .inl (cI, 16, .inl k1)), ((u 10), .inl (cF, 4096, .inr (.inr (.inl kc))))], rfl, ⟨0, hk9, fun _ => ⟨rfl, hw9⟩, fun q => absurd rfl q⟩, by show va_P D vwCl _ t9.heap; rw [ht9]; exact hP⟩, hS.F ht9⟩) hS.2.2 dX4_recorded_35
  · refine lv_istore_n (lv' := [(3, .int (-1)), (0, .ref (u 0)), (1, .int z), (2, .int q)]) hx hb dX4_recorded_6 rfl hl (by decide) rfl (fun ls hl => ?_)
    refine lv_aload_n hx hb dX4_recorded_7 rfl (lv_at hl 1 rfl) ?_
    refine lv_iload_n hx hb dX4_recorded_8 rfl (lv_at hl 0 rfl) ?_
    refine lv_if_lt (tgt := 16) hx hb dX4_recorded_9 (by decide) (fun c_4 => ?_) (fun c_4 => absurd (by decide) c_4)
    refine lv_iconst (v := nI 0) hx hb dX4_recorded_16 (by decide) ?_
    refine lv_iconst (v := nI 1) hx hb dX4_recorded_17 (by decide) ?_
    refine lv_iconst (v := nI 1) hx hb dX4_recorded_18 (by decide) ?_
    refine lz_cMi0 (lz_runV (C := RX4) (As := [.int (nI 0), .int (nI 1), .int (nI 1)]) (rest := []) hC hS hl (c_X4_goes (Or.inr ⟨hck, rfl⟩ : bz ((0 ≤ q.toInt ∧ q.toInt < (cq (sL x) z.toInt : Int))) (nI 0)) (Or.inl ⟨trivial, rfl⟩ : bz True (nI 1)) (Or.inl ⟨trivial, rfl⟩ : bz True (nI 1)) hw) (cwV 3 hts gX4_recorded_X4_goes rfl rfl rfl (by decide +kernel) ⟨Nat.le_of_ble_eq_true rfl, Nat.le_of_ble_eq_true rfl⟩) hP hD (va_recv hK hP (ci := 4) (q0 := 0) rfl rfl) rfl rfl (Nat.le_of_ble_eq_true rfl) dX4_recorded_19 ⟨Nat.le_of_ble_eq_true rfl, Nat.le_of_ble_eq_true rfl⟩) hD hS hA (fun r w1 h => by obtain ⟨k, -, -, h⟩ := h; exact h.ad2 hw) (fun r_5 w1 H locs hpo hP hD hS => ?_)
    obtain ⟨k9, hk9, hb9, hw9⟩ := hpo
    refine lv_if_eq (tgt := 34) hx hb dX4_recorded_22 (by decide) (fun c_6 => ?_) (fun c_6 => ?_)
    · have hk0 : ¬ k9 = 0 := bz_0 hb9 c_6
      refine lv_fconst0 hx hb dX4_recorded_34 ?_
      exact W.fret hx hb hr (fun t9 ht9 _ => ⟨⟨_, w1, rfl, ⟨k9, hk9, fun q => absurd q hk0, fun _ => hw9⟩, by show va_P D vwCl _ t9.heap; rw [ht9]; exact hP⟩, hS.F ht9⟩) hS.2.2 dX4_recorded_35
    · exact absurd (cdR_0 hk9 (bz_1 hb9 c_6)).1 hck

set_option maxRecDepth 100000 in
set_option maxHeartbeats 4000000 in
/-- count(what) -/
theorem c_X4_count {z : Int32} (hw : WM cI cF u n ev th R x w) (hx0 : Ok n ev R x) : Met l yX4_count wsX4_count (rmk 3 0 0) (pcW l D cI cF cQ aT [.ref (u 0), .int z] w sz) (va_Qi (fun (r : Int32) (w1 : va_W) => ∃ k, cdR (0 ≤ z.toInt ∧ z.toInt ≤ 7) True True k ∧ (k = 0 → r = (ctv n R x (tn z)) ∧ WM cI cF u n ev (nI k) R x w1) ∧ (k ≠ 0 → WM cI cF u n ev (nI k) R x w1)) (fun w1 t => va_P D vwCl w1 t.heap) (va_A w sz)) 0 0 (va_A w sz) := by
  obtain ⟨r1, r2, r3, f1, f2, f3, f4, k1, kc, hdr, hrec, hks, rfl⟩ := id hw
  refine lz_ofM (Qf := fun A => va_Qi (fun (r : Int32) (w1 : va_W) => ∃ k, cdR (0 ≤ z.toInt ∧ z.toInt ≤ 7) True True k ∧ (k = 0 → r = (ctv n R x (tn z)) ∧ WM cI cF u n ev (nI k) R x w1) ∧ (k ≠ 0 → WM cI cF u n ev (nI k) R x w1)) (fun w1 t => va_P D vwCl w1 t.heap) A) (cc := cX4_count) (maxL := 4) (ret := (some .int)) (by decide) rfl (Nat.le_of_ble_eq_true rfl) ?_
  intro p e s m below meth c A hAe hsz hx hb hr hlk hin hC hP hD hS ls hl
  clear hAe
  have hts := hC.1.2.2.2.2
  have hown : s.vm.findClass RX4 = some m.cls := hC.1.2.2.2.1
  have hml := hC.1.2.2.1
  have hA := hC.2.1
  have hK := hC.2.2.2.1
  have hnm := hC.2.2.2.2.1
  have hnf := hC.2.2.2.2.2.1
  have hiX4 : ∀ w ∈ u_ws RX4 TX4 18, w ∈ wsX4_count := fun _ h => List.mem_cons_of_mem _ (List.mem_append_right _ h)
  have hl : lv_has ls 4 [(0, .ref (u 0)), (1, .int z)] := hl
  have hn9 := hx0.1.2
  have hn1 := hx0.1.1
  have hev9 := hx0.2.1
  have hR9 : dIn n R := hx0.2.2.1
  have hcf : cfin (sc x) := hx0.2.2.2.1
  have hT9 : sT x < 2 ^ 29 := hx0.2.2.2.2.1
  have hL9 : rIn n (sL x) := hx0.2.2.2.2.2.1
  have hS9 : sGood (sS x) := hx0.2.2.2.2.2.2.1
  have hL8 := hL9.1
  have hS8 := hS9.2.1
  have hR8 := hR9.1
  have j1 : ∀ b1 : Int32, bz (0 ≤ z.toInt ∧ z.toInt ≤ 7) b1 → W p l e (rmk 3 0 0) s m [.ref (u 0), .int z].toArray below meth c s.heap [] 0 0 (MQ below (va_Qi (fun (r : Int32) (w1 : va_W) => ∃ k, cdR (0 ≤ z.toInt ∧ z.toInt ≤ 7) True True k ∧ (k = 0 → r = (ctv n R x (tn z)) ∧ WM cI cF u n ev (nI k) R x w1) ∧ (k ≠ 0 → WM cI cF u n ev (nI k) R x w1)) (fun w1 t => va_P D vwCl w1 t.heap) A) [.ref (u 0), .int z].toArray s 0 0 A) (F0 m 16 ls [.int b1, .ref (u 0)]) := by
    intro b1 h1
    refine lv_iconst (v := nI 1) hx hb dX4_count_16 (by decide) ?_
    refine lv_iconst (v := nI 1) hx hb dX4_count_17 (by decide) ?_
    refine lz_cMi0 (lz_runV (C := RX4) (As := [.int b1, .int (nI 1), .int (nI 1)]) (rest := []) hC hS hl (c_X4_goes h1 (Or.inl ⟨trivial, rfl⟩ : bz True (nI 1)) (Or.inl ⟨trivial, rfl⟩ : bz True (nI 1)) hw) (cwV 3 hts gX4_count_X4_goes rfl rfl rfl (by decide +kernel) ⟨Nat.le_of_ble_eq_true rfl, Nat.le_of_ble_eq_true rfl⟩) hP hD (va_recv hK hP (ci := 4) (q0 := 0) rfl rfl) rfl rfl (Nat.le_of_ble_eq_true rfl) dX4_count_18 ⟨Nat.le_of_ble_eq_true rfl, Nat.le_of_ble_eq_true rfl⟩) hD hS hA (fun r w1 h => by obtain ⟨k, -, -, h⟩ := h; exact h.ad2 hw) (fun r_1 w1 H locs hpo hP hD hS => ?_)
    obtain ⟨k9, hk9, hb9, hw9⟩ := hpo
    refine lv_if_ne (tgt := 26) hx hb dX4_count_21 (by decide) (fun c_2 => ?_) (fun c_2 => ?_)
    · have hk0 : k9 = 0 := bz_1 hb9 c_2
      subst hk0
      have hpp := cdR_0 hk9 rfl
      obtain ⟨r1, r2, r3, f1, f2, f3, f4, k1, kc, hdr, hrec, hks, rfl⟩ := id hw9
      have hP : va_P D vwCl ([((u 0), .inr (4, [.int (nI 0), .int (nI n), .ref (u 1), .int (nI (sT x)), .int (nI ev), .int (sd x), .int (nI R.length), .ref (u 2), .ref (u 3), .ref (u 4), .int (nI ((sL x).length)), .ref (u 5), .ref (u 6), .ref (u 7), .ref (u 8), .int (nI ((sS x).length)), .ref (u 9), .ref (u 10)])), ((u 1), .inl (cF, 256, .inr (.inr (.inl (sc x))))), ((u 2), .inl (cI, 64, .inl r1)), ((u 3), .inl (cI, 64, .inl r2)), ((u 4), .inl (cF, 64, .inr (.inr (.inl r3)))), ((u 5), .inl (cI, 512, .inl f1)), ((u 6), .inl (cI, 512, .inl f2)), ((u 7), .inl (cI, 512, .inl f3)), ((u 8), .inl (cF, 512, .inr (.inr (.inl f4)))), ((u 9), .inl (cI, 16, .inl k1)), ((u 10), .inl (cF, 4096, .inr (.inr (.inl kc))))]) H := hP
      have hD : va_D A ([((u 0), .inr (4, [.int (nI 0), .int (nI n), .ref (u 1), .int (nI (sT x)), .int (nI ev), .int (sd x), .int (nI R.length), .ref (u 2), .ref (u 3), .ref (u 4), .int (nI ((sL x).length)), .ref (u 5), .ref (u 6), .ref (u 7), .ref (u 8), .int (nI ((sS x).length)), .ref (u 9), .ref (u 10)])), ((u 1), .inl (cF, 256, .inr (.inr (.inl (sc x))))), ((u 2), .inl (cI, 64, .inl r1)), ((u 3), .inl (cI, 64, .inl r2)), ((u 4), .inl (cF, 64, .inr (.inr (.inl r3)))), ((u 5), .inl (cI, 512, .inl f1)), ((u 6), .inl (cI, 512, .inl f2)), ((u 7), .inl (cI, 512, .inl f3)), ((u 8), .inl (cF, 512, .inr (.inr (.inl f4)))), ((u 9), .inl (cI, 16, .inl k1)), ((u 10), .inl (cF, 4096, .inr (.inr (.inl kc))))]) := hD
      refine lv_iconst (v := nI 0) hx hb dX4_count_26 (by decide) ?_
      refine lv_istore_n (lv' := [(2, .int (nI 0)), (0, .ref (u 0)), (1, .int z)]) hx hb dX4_count_27 rfl hl (by decide) rfl (fun ls hl => ?_)
      refine lv_iconst (v := nI 0) hx hb dX4_count_28 (by decide) ?_
      refine lv_istore_n (lv' := [(3, .int (nI 0)), (2, .int (nI 0)), (0, .ref (u 0)), (1, .int z)]) hx hb dX4_count_29 rfl hl (by decide) rfl (fun ls hl => ?_)
      have loop : ∀ (r i : Nat), r + i = n → ∀ ls : Array Slot, lv_has ls 4 [(3, .int (nI i)), (2, .int (nI (nzc (sc x) i))), (0, .ref (u 0)), (1, .int z)] → W p l e (rmk 3 0 0) s m [.ref (u 0), .int z].toArray below meth c H locs 0 0 (MQ below (va_Qi (fun (r : Int32) (w1 : va_W) => ∃ k, cdR (0 ≤ z.toInt ∧ z.toInt ≤ 7) True True k ∧ (k = 0 → r = (ctv n R x (tn z)) ∧ WM cI cF u n ev (nI k) R x w1) ∧ (k ≠ 0 → WM cI cF u n ev (nI k) R x w1)) (fun w1 t => va_P D vwCl w1 t.heap) A) [.ref (u 0), .int z].toArray s 0 0 A) (F0 m 30 ls []) := by
        intro r
        induction r with
        | zero =>
          intro i h1 ls hl
          have hl : lv_has ls 4 [(3, .int (nI i)), (2, .int (nI (nzc (sc x) i))), (0, .ref (u 0)), (1, .int z)] := hl
          refine lv_iload_n hx hb dX4_count_30 rfl (lv_at hl 0 rfl) ?_
          refine lv_aload_n hx hb dX4_count_31 rfl (lv_at hl 2 rfl) ?_
          refine va_get (D := D) (ci := 4) (v := .int (nI n)) (C := RX4) (T := TX4) (N := 18) hx hb hts hiX4 hown hK hP 0 rfl rfl 1 (by decide) (hts (.fieldLink RX4 41 "StateKeeperModel" "n" "I") (List.mem_of_getElem? (i := 1) rfl)) (fun _ h9 => h9) rfl dX4_count_32 ?_
          refine lv_icmp_ge (tgt := 63) hx hb dX4_count_35 (by decide) (fun c_3 => ?_) (fun c_3 => absurd (nI_le (by omega) (by omega)) c_3)
          have hi2 : i = n := by omega
          subst i
          have hl : lv_has ls 4 [(3, .int (nI n)), (2, .int (nI (nzc (sc x) n))), (0, .ref (u 0)), (1, .int z)] := hl
          refine lv_iload_n hx hb dX4_count_63 rfl (lv_at hl 3 rfl) ?_
          have hv : z.toInt = 0 ∨ z.toInt = 1 ∨ z.toInt = 2 ∨ z.toInt = 3 ∨ z.toInt = 4 ∨ z.toInt = 5 ∨ z.toInt = 6 ∨ z.toInt = 7 := by have := hpp.1; omega
          rcases hv with hv | hv | hv | hv | hv | hv | hv | hv
          · refine lv_tableIn (tgt := 108) (off := 44) hx hb dX4_count_64 (by rw [hv]; decide) (by rw [hv]; decide) (by rw [hv]; rfl) (by decide) ?_
            refine lv_aload_n hx hb dX4_count_108 rfl (lv_at hl 2 rfl) ?_
            refine va_get (D := D) (ci := 4) (v := .int (nI (sT x))) (C := RX4) (T := TX4) (N := 18) hx hb hts hiX4 hown hK hP 0 rfl rfl 3 (by decide) (hts (.fieldLink RX4 62 "StateKeeperModel" "now" "I") (List.mem_of_getElem? (i := 3) rfl)) (fun _ h9 => h9) rfl dX4_count_109 ?_
            have hv2 : tn z = 0 := by show z.toInt.toNat = _; rw [hv]; rfl
            exact W.iret hx hb hr (fun t9 ht9 _ => ⟨⟨_, [((u 0), .inr (4, [.int (nI 0), .int (nI n), .ref (u 1), .int (nI (sT x)), .int (nI ev), .int (sd x), .int (nI R.length), .ref (u 2), .ref (u 3), .ref (u 4), .int (nI ((sL x).length)), .ref (u 5), .ref (u 6), .ref (u 7), .ref (u 8), .int (nI ((sS x).length)), .ref (u 9), .ref (u 10)])), ((u 1), .inl (cF, 256, .inr (.inr (.inl (sc x))))), ((u 2), .inl (cI, 64, .inl r1)), ((u 3), .inl (cI, 64, .inl r2)), ((u 4), .inl (cF, 64, .inr (.inr (.inl r3)))), ((u 5), .inl (cI, 512, .inl f1)), ((u 6), .inl (cI, 512, .inl f2)), ((u 7), .inl (cI, 512, .inl f3)), ((u 8), .inl (cF, 512, .inr (.inr (.inl f4)))), ((u 9), .inl (cI, 16, .inl k1)), ((u 10), .inl (cF, 4096, .inr (.inr (.inl kc))))], rfl, ⟨0, hk9, fun _ => ⟨by rw [hv2]; rfl, hw9⟩, fun q => absurd rfl q⟩, by show va_P D vwCl _ t9.heap; rw [ht9]; exact hP⟩, hS.F ht9⟩) hS.2.2 dX4_count_112
          · refine lv_tableIn (tgt := 113) (off := 49) hx hb dX4_count_64 (by rw [hv]; decide) (by rw [hv]; decide) (by rw [hv]; rfl) (by decide) ?_
            refine lv_aload_n hx hb dX4_count_113 rfl (lv_at hl 2 rfl) ?_
            refine va_get (D := D) (ci := 4) (v := .int (nI n)) (C := RX4) (T := TX4) (N := 18) hx hb hts hiX4 hown hK hP 0 rfl rfl 1 (by decide) (hts (.fieldLink RX4 41 "StateKeeperModel" "n" "I") (List.mem_of_getElem? (i := 1) rfl)) (fun _ h9 => h9) rfl dX4_count_114 ?_
            have hv2 : tn z = 1 := by show z.toInt.toNat = _; rw [hv]; rfl
            exact W.iret hx hb hr (fun t9 ht9 _ => ⟨⟨_, [((u 0), .inr (4, [.int (nI 0), .int (nI n), .ref (u 1), .int (nI (sT x)), .int (nI ev), .int (sd x), .int (nI R.length), .ref (u 2), .ref (u 3), .ref (u 4), .int (nI ((sL x).length)), .ref (u 5), .ref (u 6), .ref (u 7), .ref (u 8), .int (nI ((sS x).length)), .ref (u 9), .ref (u 10)])), ((u 1), .inl (cF, 256, .inr (.inr (.inl (sc x))))), ((u 2), .inl (cI, 64, .inl r1)), ((u 3), .inl (cI, 64, .inl r2)), ((u 4), .inl (cF, 64, .inr (.inr (.inl r3)))), ((u 5), .inl (cI, 512, .inl f1)), ((u 6), .inl (cI, 512, .inl f2)), ((u 7), .inl (cI, 512, .inl f3)), ((u 8), .inl (cF, 512, .inr (.inr (.inl f4)))), ((u 9), .inl (cI, 16, .inl k1)), ((u 10), .inl (cF, 4096, .inr (.inr (.inl kc))))], rfl, ⟨0, hk9, fun _ => ⟨by rw [hv2]; rfl, hw9⟩, fun q => absurd rfl q⟩, by show va_P D vwCl _ t9.heap; rw [ht9]; exact hP⟩, hS.F ht9⟩) hS.2.2 dX4_count_117
          · refine lv_tableIn (tgt := 118) (off := 54) hx hb dX4_count_64 (by rw [hv]; decide) (by rw [hv]; decide) (by rw [hv]; rfl) (by decide) ?_
            refine lv_aload_n hx hb dX4_count_118 rfl (lv_at hl 2 rfl) ?_
            refine va_get (D := D) (ci := 4) (v := .int (nI ((sS x).length))) (C := RX4) (T := TX4) (N := 18) hx hb hts hiX4 hown hK hP 0 rfl rfl 15 (by decide) (hts (.fieldLink RX4 101 "StateKeeperModel" "snapshots" "I") (List.mem_of_getElem? (i := 4) rfl)) (fun _ h9 => h9) rfl dX4_count_119 ?_
            have hv2 : tn z = 2 := by show z.toInt.toNat = _; rw [hv]; rfl
            exact W.iret hx hb hr (fun t9 ht9 _ => ⟨⟨_, [((u 0), .inr (4, [.int (nI 0), .int (nI n), .ref (u 1), .int (nI (sT x)), .int (nI ev), .int (sd x), .int (nI R.length), .ref (u 2), .ref (u 3), .ref (u 4), .int (nI ((sL x).length)), .ref (u 5), .ref (u 6), .ref (u 7), .ref (u 8), .int (nI ((sS x).length)), .ref (u 9), .ref (u 10)])), ((u 1), .inl (cF, 256, .inr (.inr (.inl (sc x))))), ((u 2), .inl (cI, 64, .inl r1)), ((u 3), .inl (cI, 64, .inl r2)), ((u 4), .inl (cF, 64, .inr (.inr (.inl r3)))), ((u 5), .inl (cI, 512, .inl f1)), ((u 6), .inl (cI, 512, .inl f2)), ((u 7), .inl (cI, 512, .inl f3)), ((u 8), .inl (cF, 512, .inr (.inr (.inl f4)))), ((u 9), .inl (cI, 16, .inl k1)), ((u 10), .inl (cF, 4096, .inr (.inr (.inl kc))))], rfl, ⟨0, hk9, fun _ => ⟨by rw [hv2]; rfl, hw9⟩, fun q => absurd rfl q⟩, by show va_P D vwCl _ t9.heap; rw [ht9]; exact hP⟩, hS.F ht9⟩) hS.2.2 dX4_count_122
          · refine lv_tableIn (tgt := 123) (off := 59) hx hb dX4_count_64 (by rw [hv]; decide) (by rw [hv]; decide) (by rw [hv]; rfl) (by decide) ?_
            refine lv_aload_n hx hb dX4_count_123 rfl (lv_at hl 2 rfl) ?_
            refine va_get (D := D) (ci := 4) (v := .int (nI ((sL x).length))) (C := RX4) (T := TX4) (N := 18) hx hb hts hiX4 hown hK hP 0 rfl rfl 10 (by decide) (hts (.fieldLink RX4 65 "StateKeeperModel" "inputs" "I") (List.mem_of_getElem? (i := 5) rfl)) (fun _ h9 => h9) rfl dX4_count_124 ?_
            have hv2 : tn z = 3 := by show z.toInt.toNat = _; rw [hv]; rfl
            exact W.iret hx hb hr (fun t9 ht9 _ => ⟨⟨_, [((u 0), .inr (4, [.int (nI 0), .int (nI n), .ref (u 1), .int (nI (sT x)), .int (nI ev), .int (sd x), .int (nI R.length), .ref (u 2), .ref (u 3), .ref (u 4), .int (nI ((sL x).length)), .ref (u 5), .ref (u 6), .ref (u 7), .ref (u 8), .int (nI ((sS x).length)), .ref (u 9), .ref (u 10)])), ((u 1), .inl (cF, 256, .inr (.inr (.inl (sc x))))), ((u 2), .inl (cI, 64, .inl r1)), ((u 3), .inl (cI, 64, .inl r2)), ((u 4), .inl (cF, 64, .inr (.inr (.inl r3)))), ((u 5), .inl (cI, 512, .inl f1)), ((u 6), .inl (cI, 512, .inl f2)), ((u 7), .inl (cI, 512, .inl f3)), ((u 8), .inl (cF, 512, .inr (.inr (.inl f4)))), ((u 9), .inl (cI, 16, .inl k1)), ((u 10), .inl (cF, 4096, .inr (.inr (.inl kc))))], rfl, ⟨0, hk9, fun _ => ⟨by rw [hv2]; rfl, hw9⟩, fun q => absurd rfl q⟩, by show va_P D vwCl _ t9.heap; rw [ht9]; exact hP⟩, hS.F ht9⟩) hS.2.2 dX4_count_127
          · refine lv_tableIn (tgt := 128) (off := 64) hx hb dX4_count_64 (by rw [hv]; decide) (by rw [hv]; decide) (by rw [hv]; rfl) (by decide) ?_
            refine lv_aload_n hx hb dX4_count_128 rfl (lv_at hl 2 rfl) ?_
            refine lv_aload_n hx hb dX4_count_129 rfl (lv_at hl 2 rfl) ?_
            refine va_get (D := D) (ci := 4) (v := .int (nI (sT x))) (C := RX4) (T := TX4) (N := 18) hx hb hts hiX4 hown hK hP 0 rfl rfl 3 (by decide) (hts (.fieldLink RX4 62 "StateKeeperModel" "now" "I") (List.mem_of_getElem? (i := 3) rfl)) (fun _ h9 => h9) rfl dX4_count_130 ?_
            refine vp_callSi (lz_runV (C := RX4) (As := [.int (nI (sT x))]) (rest := []) hC hS hl (c_X4_inputsOf hL9 hw9) (cwV 1 hts gX4_count_X4_inputsOf rfl rfl rfl (by decide +kernel) ⟨Nat.le_of_ble_eq_true rfl, Nat.le_of_ble_eq_true rfl⟩) hP hD (va_recv hK hP (ci := 4) (q0 := 0) rfl rfl) rfl rfl (Nat.le_of_ble_eq_true rfl) dX4_count_133 ⟨Nat.le_of_ble_eq_true rfl, Nat.le_of_ble_eq_true rfl⟩).run (fun r_4 er_4 => ?_)
            subst er_4
            refine lz_i (y := nI (cq (sL x) (sT x : Int))) (by rw [nI_toInt (by omega)]) ?_
            have hv2 : tn z = 4 := by show z.toInt.toNat = _; rw [hv]; rfl
            exact W.iret hx hb hr (fun t9 ht9 _ => ⟨⟨_, [((u 0), .inr (4, [.int (nI 0), .int (nI n), .ref (u 1), .int (nI (sT x)), .int (nI ev), .int (sd x), .int (nI R.length), .ref (u 2), .ref (u 3), .ref (u 4), .int (nI ((sL x).length)), .ref (u 5), .ref (u 6), .ref (u 7), .ref (u 8), .int (nI ((sS x).length)), .ref (u 9), .ref (u 10)])), ((u 1), .inl (cF, 256, .inr (.inr (.inl (sc x))))), ((u 2), .inl (cI, 64, .inl r1)), ((u 3), .inl (cI, 64, .inl r2)), ((u 4), .inl (cF, 64, .inr (.inr (.inl r3)))), ((u 5), .inl (cI, 512, .inl f1)), ((u 6), .inl (cI, 512, .inl f2)), ((u 7), .inl (cI, 512, .inl f3)), ((u 8), .inl (cF, 512, .inr (.inr (.inl f4)))), ((u 9), .inl (cI, 16, .inl k1)), ((u 10), .inl (cF, 4096, .inr (.inr (.inl kc))))], rfl, ⟨0, hk9, fun _ => ⟨by rw [hv2]; rfl, hw9⟩, fun q => absurd rfl q⟩, by show va_P D vwCl _ t9.heap; rw [ht9]; exact hP⟩, hS.F ht9⟩) hS.2.2 dX4_count_136
          · refine lv_tableIn (tgt := 137) (off := 73) hx hb dX4_count_64 (by rw [hv]; decide) (by rw [hv]; decide) (by rw [hv]; rfl) (by decide) ?_
            refine lv_aload_n hx hb dX4_count_137 rfl (lv_at hl 2 rfl) ?_
            refine va_get (D := D) (ci := 4) (v := .int (nI R.length)) (C := RX4) (T := TX4) (N := 18) hx hb hts hiX4 hown hK hP 0 rfl rfl 6 (by decide) (hts (.fieldLink RX4 59 "StateKeeperModel" "drifts" "I") (List.mem_of_getElem? (i := 6) rfl)) (fun _ h9 => h9) rfl dX4_count_138 ?_
            have hv2 : tn z = 5 := by show z.toInt.toNat = _; rw [hv]; rfl
            exact W.iret hx hb hr (fun t9 ht9 _ => ⟨⟨_, [((u 0), .inr (4, [.int (nI 0), .int (nI n), .ref (u 1), .int (nI (sT x)), .int (nI ev), .int (sd x), .int (nI R.length), .ref (u 2), .ref (u 3), .ref (u 4), .int (nI ((sL x).length)), .ref (u 5), .ref (u 6), .ref (u 7), .ref (u 8), .int (nI ((sS x).length)), .ref (u 9), .ref (u 10)])), ((u 1), .inl (cF, 256, .inr (.inr (.inl (sc x))))), ((u 2), .inl (cI, 64, .inl r1)), ((u 3), .inl (cI, 64, .inl r2)), ((u 4), .inl (cF, 64, .inr (.inr (.inl r3)))), ((u 5), .inl (cI, 512, .inl f1)), ((u 6), .inl (cI, 512, .inl f2)), ((u 7), .inl (cI, 512, .inl f3)), ((u 8), .inl (cF, 512, .inr (.inr (.inl f4)))), ((u 9), .inl (cI, 16, .inl k1)), ((u 10), .inl (cF, 4096, .inr (.inr (.inl kc))))], rfl, ⟨0, hk9, fun _ => ⟨by rw [hv2]; rfl, hw9⟩, fun q => absurd rfl q⟩, by show va_P D vwCl _ t9.heap; rw [ht9]; exact hP⟩, hS.F ht9⟩) hS.2.2 dX4_count_141
          · refine lv_tableIn (tgt := 142) (off := 78) hx hb dX4_count_64 (by rw [hv]; decide) (by rw [hv]; decide) (by rw [hv]; rfl) (by decide) ?_
            refine lv_aload_n hx hb dX4_count_142 rfl (lv_at hl 2 rfl) ?_
            refine va_get (D := D) (ci := 4) (v := .int (sd x)) (C := RX4) (T := TX4) (N := 18) hx hb hts hiX4 hown hK hP 0 rfl rfl 5 (by decide) (hts (.fieldLink RX4 95 "StateKeeperModel" "done" "I") (List.mem_of_getElem? (i := 7) rfl)) (fun _ h9 => h9) rfl dX4_count_143 ?_
            have hv2 : tn z = 6 := by show z.toInt.toNat = _; rw [hv]; rfl
            exact W.iret hx hb hr (fun t9 ht9 _ => ⟨⟨_, [((u 0), .inr (4, [.int (nI 0), .int (nI n), .ref (u 1), .int (nI (sT x)), .int (nI ev), .int (sd x), .int (nI R.length), .ref (u 2), .ref (u 3), .ref (u 4), .int (nI ((sL x).length)), .ref (u 5), .ref (u 6), .ref (u 7), .ref (u 8), .int (nI ((sS x).length)), .ref (u 9), .ref (u 10)])), ((u 1), .inl (cF, 256, .inr (.inr (.inl (sc x))))), ((u 2), .inl (cI, 64, .inl r1)), ((u 3), .inl (cI, 64, .inl r2)), ((u 4), .inl (cF, 64, .inr (.inr (.inl r3)))), ((u 5), .inl (cI, 512, .inl f1)), ((u 6), .inl (cI, 512, .inl f2)), ((u 7), .inl (cI, 512, .inl f3)), ((u 8), .inl (cF, 512, .inr (.inr (.inl f4)))), ((u 9), .inl (cI, 16, .inl k1)), ((u 10), .inl (cF, 4096, .inr (.inr (.inl kc))))], rfl, ⟨0, hk9, fun _ => ⟨by rw [hv2]; rfl, hw9⟩, fun q => absurd rfl q⟩, by show va_P D vwCl _ t9.heap; rw [ht9]; exact hP⟩, hS.F ht9⟩) hS.2.2 dX4_count_146
          · refine lv_tableOut (tgt := 147) hx hb dX4_count_64 (by omega) (by decide) ?_
            refine lv_iload_n hx hb dX4_count_147 rfl (lv_at hl 1 rfl) ?_
            have hv2 : tn z = 7 := by show z.toInt.toNat = _; rw [hv]; rfl
            exact W.iret hx hb hr (fun t9 ht9 _ => ⟨⟨_, [((u 0), .inr (4, [.int (nI 0), .int (nI n), .ref (u 1), .int (nI (sT x)), .int (nI ev), .int (sd x), .int (nI R.length), .ref (u 2), .ref (u 3), .ref (u 4), .int (nI ((sL x).length)), .ref (u 5), .ref (u 6), .ref (u 7), .ref (u 8), .int (nI ((sS x).length)), .ref (u 9), .ref (u 10)])), ((u 1), .inl (cF, 256, .inr (.inr (.inl (sc x))))), ((u 2), .inl (cI, 64, .inl r1)), ((u 3), .inl (cI, 64, .inl r2)), ((u 4), .inl (cF, 64, .inr (.inr (.inl r3)))), ((u 5), .inl (cI, 512, .inl f1)), ((u 6), .inl (cI, 512, .inl f2)), ((u 7), .inl (cI, 512, .inl f3)), ((u 8), .inl (cF, 512, .inr (.inr (.inl f4)))), ((u 9), .inl (cI, 16, .inl k1)), ((u 10), .inl (cF, 4096, .inr (.inr (.inl kc))))], rfl, ⟨0, hk9, fun _ => ⟨by rw [hv2]; rfl, hw9⟩, fun q => absurd rfl q⟩, by show va_P D vwCl _ t9.heap; rw [ht9]; exact hP⟩, hS.F ht9⟩) hS.2.2 dX4_count_148
        | succ r ih =>
          intro i h1 ls hl
          have hl : lv_has ls 4 [(3, .int (nI i)), (2, .int (nI (nzc (sc x) i))), (0, .ref (u 0)), (1, .int z)] := hl
          refine lv_iload_n hx hb dX4_count_30 rfl (lv_at hl 0 rfl) ?_
          refine lv_aload_n hx hb dX4_count_31 rfl (lv_at hl 2 rfl) ?_
          refine va_get (D := D) (ci := 4) (v := .int (nI n)) (C := RX4) (T := TX4) (N := 18) hx hb hts hiX4 hown hK hP 0 rfl rfl 1 (by decide) (hts (.fieldLink RX4 41 "StateKeeperModel" "n" "I") (List.mem_of_getElem? (i := 1) rfl)) (fun _ h9 => h9) rfl dX4_count_32 ?_
          refine lv_icmp_ge (tgt := 63) hx hb dX4_count_35 (by decide) (fun c1 => absurd c1 (nI_ge (by omega) (by omega))) (fun c1 => ?_)
          refine lv_aload_n hx hb dX4_count_38 rfl (lv_at hl 2 rfl) ?_
          refine va_get (D := D) (ci := 4) (v := .ref (u 1)) (C := RX4) (T := TX4) (N := 18) hx hb hts hiX4 hown hK hP 0 rfl rfl 2 (by decide) (hts (.fieldLink RX4 7 "StateKeeperModel" "cells" "[F") (List.mem_of_getElem? (i := 2) rfl)) (fun _ h9 => h9) rfl dX4_count_39 ?_
          refine lv_iload_n hx hb dX4_count_42 rfl (lv_at hl 0 rfl) ?_
          refine lz_fald hx hb hK hP 1 0 rfl rfl (by omega) (by omega) dX4_count_43 ?_
          refine lv_fconst0 hx hb dX4_count_44 ?_
          refine lv_fcmp hx hb dX4_count_45 ?_
          refine lv_if_eq (tgt := 55) hx hb dX4_count_46 (by decide) (fun c_5 => ?_) (fun c_5 => ?_)
          · refine lv_iload_n hx hb dX4_count_55 rfl (lv_at hl 1 rfl) ?_
            refine lv_istore_n (lv' := [(2, .int (nI (nzc (sc x) i))), (3, .int (nI i)), (0, .ref (u 0)), (1, .int z)]) hx hb dX4_count_56 rfl hl (by decide) rfl (fun ls hl => ?_)
            refine lv_iinc (v := nI (i + 1)) (lv' := [(3, .int (nI (i + 1))), (2, .int (nI (nzc (sc x) i))), (0, .ref (u 0)), (1, .int z)]) hx hb dX4_count_57 hl (k := 1) rfl (nI_add _ 1) (by decide) rfl (fun ls hl => ?_)
            refine lv_goto (tgt := 30) hx hb dX4_count_60 (by decide) ?_
            have e9 : nzc (sc x) (i + 1) = nzc (sc x) i := by show nzc (sc x) i + _ = _; rw [if_pos ((fl_eql _ _).mp c_5)]; rfl
            exact ih (i + 1) (by omega) ls (by rw [e9]; exact lv_sub hl [0, 1, 2, 3] rfl)
          · refine lv_iload_n hx hb dX4_count_49 rfl (lv_at hl 1 rfl) ?_
            refine lv_iconst (v := nI 1) hx hb dX4_count_50 (by decide) ?_
            refine lv_iadd hx hb dX4_count_51 ?_
            refine lz_i (nI_add _ _) ?_
            refine lv_goto (tgt := 56) hx hb dX4_count_52 (by decide) ?_
            refine lv_istore_n (lv' := [(2, .int (nI ((nzc (sc x) i) + 1))), (3, .int (nI i)), (0, .ref (u 0)), (1, .int z)]) hx hb dX4_count_56 rfl hl (by decide) rfl (fun ls hl => ?_)
            refine lv_iinc (v := nI (i + 1)) (lv' := [(3, .int (nI (i + 1))), (2, .int (nI ((nzc (sc x) i) + 1))), (0, .ref (u 0)), (1, .int z)]) hx hb dX4_count_57 hl (k := 1) rfl (nI_add _ 1) (by decide) rfl (fun ls hl => ?_)
            refine lv_goto (tgt := 30) hx hb dX4_count_60 (by decide) ?_
            have e9 : nzc (sc x) (i + 1) = nzc (sc x) i + 1 := by show nzc (sc x) i + _ = _; rw [if_neg (fun q => c_5 ((fl_eql _ _).mpr q))]
            exact ih (i + 1) (by omega) ls (by rw [e9]; exact lv_sub hl [0, 1, 2, 3] rfl)
      exact loop n 0 (by omega) ls hl
    · have hk0 : ¬ k9 = 0 := bz_0 hb9 c_2
      refine lv_iconst (v := nI 0) hx hb dX4_count_24 (by decide) ?_
      exact W.iret hx hb hr (fun t9 ht9 _ => ⟨⟨_, w1, rfl, ⟨k9, hk9, fun q => absurd q hk0, fun _ => hw9⟩, by show va_P D vwCl _ t9.heap; rw [ht9]; exact hP⟩, hS.F ht9⟩) hS.2.2 dX4_count_25
  refine lv_aload_n hx hb dX4_count_0 rfl (lv_at hl 0 rfl) ?_
  refine lv_iload_n hx hb dX4_count_1 rfl (lv_at hl 1 rfl) ?_
  refine lv_if_lt (tgt := 15) hx hb dX4_count_2 (by decide) (fun c_6 => ?_) (fun c_6 => ?_)
  · refine lv_iconst (v := nI 0) hx hb dX4_count_15 (by decide) ?_
    exact j1 _ (Or.inr ⟨fun q => absurd (iz_lt0.mp c_6) (by omega), rfl⟩)
  · have e1 : 0 ≤ z.toInt := by have := mt iz_lt0.mpr c_6; omega
    refine lv_iload_n hx hb dX4_count_5 rfl (lv_at hl 1 rfl) ?_
    refine lv_bipush (v := nI 7) hx hb dX4_count_6 (by decide) ?_
    refine lv_icmp_gt (tgt := 15) hx hb dX4_count_8 (by decide) (fun c_7 => ?_) (fun c_7 => ?_)
    · refine lv_iconst (v := nI 0) hx hb dX4_count_15 (by decide) ?_
      exact j1 _ (Or.inr ⟨fun q => absurd ((iz_lt_l (a := 7) (by omega)).mp c_7) (by omega), rfl⟩)
    · have e2 : z.toInt ≤ 7 := by have := mt (iz_lt_l (a := 7) (by omega)).mpr c_7; omega
      refine lv_iconst (v := nI 1) hx hb dX4_count_11 (by decide) ?_
      refine lv_goto (tgt := 16) hx hb dX4_count_12 (by decide) ?_
      exact j1 _ (Or.inl ⟨⟨e1, e2⟩, rfl⟩)

set_option maxRecDepth 100000 in
set_option maxHeartbeats 4000000 in
/-- sum() -/
theorem c_X4_sum  (hw : WM cI cF u n ev th R x w) (hx0 : Ok n ev R x) : Met l yX4_sum wsX4_sum (rmk 3 0 0) (pcW l D cI cF cQ aT [.ref (u 0)] w sz) (va_Qf (fun (r : UInt32) (w1 : va_W) => r = smc (sc x) n ∧ WM cI cF u n ev (nI 0) R x w1) (fun w1 t => va_P D vwCl w1 t.heap) (va_A w sz)) 0 0 (va_A w sz) := by
  obtain ⟨r1, r2, r3, f1, f2, f3, f4, k1, kc, hdr, hrec, hks, rfl⟩ := id hw
  refine lz_ofM (Qf := fun A => va_Qf (fun (r : UInt32) (w1 : va_W) => r = smc (sc x) n ∧ WM cI cF u n ev (nI 0) R x w1) (fun w1 t => va_P D vwCl w1 t.heap) A) (cc := cX4_sum) (maxL := 3) (ret := (some .float)) (by decide) rfl (Nat.le_of_ble_eq_true rfl) ?_
  intro p e s m below meth c A hAe hsz hx hb hr hlk hin hC hP hD hS ls hl
  clear hAe
  have hts := hC.1.2.2.2.2
  have hown : s.vm.findClass RX4 = some m.cls := hC.1.2.2.2.1
  have hml := hC.1.2.2.1
  have hA := hC.2.1
  have hK := hC.2.2.2.1
  have hnm := hC.2.2.2.2.1
  have hnf := hC.2.2.2.2.2.1
  have hiX4 : ∀ w ∈ u_ws RX4 TX4 18, w ∈ wsX4_sum := fun _ h => List.mem_cons_of_mem _ (List.mem_append_right _ h)
  have hl : lv_has ls 3 [(0, .ref (u 0))] := hl
  have hn9 := hx0.1.2
  have hn1 := hx0.1.1
  have hev9 := hx0.2.1
  have hR9 : dIn n R := hx0.2.2.1
  have hcf : cfin (sc x) := hx0.2.2.2.1
  have hT9 : sT x < 2 ^ 29 := hx0.2.2.2.2.1
  have hL9 : rIn n (sL x) := hx0.2.2.2.2.2.1
  have hS9 : sGood (sS x) := hx0.2.2.2.2.2.2.1
  have hL8 := hL9.1
  have hS8 := hS9.2.1
  have hR8 := hR9.1
  refine lv_aload_n hx hb dX4_sum_0 rfl (lv_at hl 0 rfl) ?_
  refine lv_iconst (v := nI 0) hx hb dX4_sum_1 (by decide) ?_
  refine va_put (D := D) (ci := 4) (v := .int (nI 0)) (ty := .int) (C := RX4) (T := TX4) (N := 18) hx hb hts hiX4 tyX4 tyX4_ok nmX4 hown hK hP hD hS 0 rfl rfl 0 (by decide) (hts (.fieldLink RX4 48 "StateKeeperModel" "thrown" "I") (List.mem_of_getElem? (i := 1) rfl)) (fun _ h9 => h9) rfl (by decide +kernel) rfl rfl (Nat.le_of_ble_eq_true rfl) dX4_sum_2 (fun H locs hP hD hS => ?_)
  have hP : va_P D vwCl ([((u 0), .inr (4, [.int (nI 0), .int (nI n), .ref (u 1), .int (nI (sT x)), .int (nI ev), .int (sd x), .int (nI R.length), .ref (u 2), .ref (u 3), .ref (u 4), .int (nI ((sL x).length)), .ref (u 5), .ref (u 6), .ref (u 7), .ref (u 8), .int (nI ((sS x).length)), .ref (u 9), .ref (u 10)])), ((u 1), .inl (cF, 256, .inr (.inr (.inl (sc x))))), ((u 2), .inl (cI, 64, .inl r1)), ((u 3), .inl (cI, 64, .inl r2)), ((u 4), .inl (cF, 64, .inr (.inr (.inl r3)))), ((u 5), .inl (cI, 512, .inl f1)), ((u 6), .inl (cI, 512, .inl f2)), ((u 7), .inl (cI, 512, .inl f3)), ((u 8), .inl (cF, 512, .inr (.inr (.inl f4)))), ((u 9), .inl (cI, 16, .inl k1)), ((u 10), .inl (cF, 4096, .inr (.inr (.inl kc))))]) H := hP
  have hD : va_D A ([((u 0), .inr (4, [.int (nI 0), .int (nI n), .ref (u 1), .int (nI (sT x)), .int (nI ev), .int (sd x), .int (nI R.length), .ref (u 2), .ref (u 3), .ref (u 4), .int (nI ((sL x).length)), .ref (u 5), .ref (u 6), .ref (u 7), .ref (u 8), .int (nI ((sS x).length)), .ref (u 9), .ref (u 10)])), ((u 1), .inl (cF, 256, .inr (.inr (.inl (sc x))))), ((u 2), .inl (cI, 64, .inl r1)), ((u 3), .inl (cI, 64, .inl r2)), ((u 4), .inl (cF, 64, .inr (.inr (.inl r3)))), ((u 5), .inl (cI, 512, .inl f1)), ((u 6), .inl (cI, 512, .inl f2)), ((u 7), .inl (cI, 512, .inl f3)), ((u 8), .inl (cF, 512, .inr (.inr (.inl f4)))), ((u 9), .inl (cI, 16, .inl k1)), ((u 10), .inl (cF, 4096, .inr (.inr (.inl kc))))]) := hD
  refine lv_fconst0 hx hb dX4_sum_5 ?_
  refine lv_fstore_n (lv' := [(1, .float FP.fconst0), (0, .ref (u 0))]) hx hb dX4_sum_6 rfl hl (by decide) rfl (fun ls hl => ?_)
  refine lv_iconst (v := nI 0) hx hb dX4_sum_7 (by decide) ?_
  refine lv_istore_n (lv' := [(2, .int (nI 0)), (1, .float FP.fconst0), (0, .ref (u 0))]) hx hb dX4_sum_8 rfl hl (by decide) rfl (fun ls hl => ?_)
  have loop : ∀ (r i : Nat), r + i = n → ∀ ls : Array Slot, lv_has ls 3 [(2, .int (nI i)), (1, .float (smc (sc x) i)), (0, .ref (u 0))] → W p l e (rmk 3 0 0) s m [.ref (u 0)].toArray below meth c H locs 0 0 (MQ below (va_Qf (fun (r : UInt32) (w1 : va_W) => r = smc (sc x) n ∧ WM cI cF u n ev (nI 0) R x w1) (fun w1 t => va_P D vwCl w1 t.heap) A) [.ref (u 0)].toArray s 0 0 A) (F0 m 9 ls []) := by
    intro r
    induction r with
    | zero =>
      intro i h1 ls hl
      have hl : lv_has ls 3 [(2, .int (nI i)), (1, .float (smc (sc x) i)), (0, .ref (u 0))] := hl
      refine lv_iload_n hx hb dX4_sum_9 rfl (lv_at hl 0 rfl) ?_
      refine lv_aload_n hx hb dX4_sum_10 rfl (lv_at hl 2 rfl) ?_
      refine va_get (D := D) (ci := 4) (v := .int (nI n)) (C := RX4) (T := TX4) (N := 18) hx hb hts hiX4 hown hK hP 0 rfl rfl 1 (by decide) (hts (.fieldLink RX4 41 "StateKeeperModel" "n" "I") (List.mem_of_getElem? (i := 2) rfl)) (fun _ h9 => h9) rfl dX4_sum_11 ?_
      refine lv_icmp_ge (tgt := 32) hx hb dX4_sum_14 (by decide) (fun c_1 => ?_) (fun c_1 => absurd (nI_le (by omega) (by omega)) c_1)
      refine lv_fload_n hx hb dX4_sum_32 rfl (lv_at hl 1 rfl) ?_
      exact W.fret hx hb hr (fun t9 ht9 _ => ⟨⟨_, [((u 0), .inr (4, [.int (nI 0), .int (nI n), .ref (u 1), .int (nI (sT x)), .int (nI ev), .int (sd x), .int (nI R.length), .ref (u 2), .ref (u 3), .ref (u 4), .int (nI ((sL x).length)), .ref (u 5), .ref (u 6), .ref (u 7), .ref (u 8), .int (nI ((sS x).length)), .ref (u 9), .ref (u 10)])), ((u 1), .inl (cF, 256, .inr (.inr (.inl (sc x))))), ((u 2), .inl (cI, 64, .inl r1)), ((u 3), .inl (cI, 64, .inl r2)), ((u 4), .inl (cF, 64, .inr (.inr (.inl r3)))), ((u 5), .inl (cI, 512, .inl f1)), ((u 6), .inl (cI, 512, .inl f2)), ((u 7), .inl (cI, 512, .inl f3)), ((u 8), .inl (cF, 512, .inr (.inr (.inl f4)))), ((u 9), .inl (cI, 16, .inl k1)), ((u 10), .inl (cF, 4096, .inr (.inr (.inl kc))))], rfl, ⟨by rw [show i = n by omega], _, _, _, _, _, _, _, _, _, hdr, hrec, hks, rfl⟩, by show va_P D vwCl _ t9.heap; rw [ht9]; exact hP⟩, hS.F ht9⟩) hS.2.2 dX4_sum_33
    | succ r ih =>
      intro i h1 ls hl
      have hl : lv_has ls 3 [(2, .int (nI i)), (1, .float (smc (sc x) i)), (0, .ref (u 0))] := hl
      refine lv_iload_n hx hb dX4_sum_9 rfl (lv_at hl 0 rfl) ?_
      refine lv_aload_n hx hb dX4_sum_10 rfl (lv_at hl 2 rfl) ?_
      refine va_get (D := D) (ci := 4) (v := .int (nI n)) (C := RX4) (T := TX4) (N := 18) hx hb hts hiX4 hown hK hP 0 rfl rfl 1 (by decide) (hts (.fieldLink RX4 41 "StateKeeperModel" "n" "I") (List.mem_of_getElem? (i := 2) rfl)) (fun _ h9 => h9) rfl dX4_sum_11 ?_
      refine lv_icmp_ge (tgt := 32) hx hb dX4_sum_14 (by decide) (fun c1 => absurd c1 (nI_ge (by omega) (by omega))) (fun c1 => ?_)
      refine lv_fload_n hx hb dX4_sum_17 rfl (lv_at hl 1 rfl) ?_
      refine lv_aload_n hx hb dX4_sum_18 rfl (lv_at hl 2 rfl) ?_
      refine va_get (D := D) (ci := 4) (v := .ref (u 1)) (C := RX4) (T := TX4) (N := 18) hx hb hts hiX4 hown hK hP 0 rfl rfl 2 (by decide) (hts (.fieldLink RX4 7 "StateKeeperModel" "cells" "[F") (List.mem_of_getElem? (i := 3) rfl)) (fun _ h9 => h9) rfl dX4_sum_19 ?_
      refine lv_iload_n hx hb dX4_sum_22 rfl (lv_at hl 0 rfl) ?_
      refine lz_fald hx hb hK hP 1 0 rfl rfl (by omega) (by omega) dX4_sum_23 ?_
      refine lv_fadd hx hb dX4_sum_24 (fl_n32 (fl_add (smc_N hcf i) (hcf i))) ?_
      refine lv_fstore_n (lv' := [(1, .float (FP.fadd (smc (sc x) i) ((sc x) i))), (2, .int (nI i)), (0, .ref (u 0))]) hx hb dX4_sum_25 rfl hl (by decide) rfl (fun ls hl => ?_)
      refine lv_iinc (v := nI (i + 1)) (lv' := [(2, .int (nI (i + 1))), (1, .float (FP.fadd (smc (sc x) i) ((sc x) i))), (0, .ref (u 0))]) hx hb dX4_sum_26 hl (k := 1) rfl (nI_add _ 1) (by decide) rfl (fun ls hl => ?_)
      refine lv_goto (tgt := 9) hx hb dX4_sum_29 (by decide) ?_
      exact ih (i + 1) (by omega) ls (lv_sub hl [0, 1, 2] rfl)
  exact loop n 0 (by omega) ls hl

end X4b
