/-! StateKeeper: the public methods -/
section X3c
variable {l : Launch} {D : va_G} {cI cF cQ : ClassId} {aT sz : Nat} {o : Nat → Nat} {n ev : Nat} {R : List dI} {x : St} {w : va_W}
set_option maxRecDepth 100000 in
set_option maxHeartbeats 4000000 in
/-- drift(from, to, factor) -/
theorem c_X3_drift {a b : Int32} {f : UInt32} (hw : WC cI cF cQ o n ev R x w) (hx0 : Ok n ev R x) (hs : srt (sL x)) : vx_Met l yX3_drift wsX3_drift (rmk 9 8 48) (pcW l D cI cF cQ aT [.ref (o 0), .int a, .int b, .float f] w sz) (va_Qi (fun (r : Int32) (w1 : va_W) => (kn n a ∧ kn n b) ∧ (inF c4N c4P f) ∧ (R.length < 64 ∧ sT x = 0 ∧ (sL x).length = 0) ∧ r = nI (R.length + 1) ∧ WC cI cF cQ o n ev (R ++ [(tn a, tn b, f)]) x w1) (fun w1 t => va_P D vwCl w1 t.heap) (va_A w sz)) (xW D w (xc eI eA eS (kn n a ∧ kn n b) (inF c4N c4P f) (R.length < 64 ∧ sT x = 0 ∧ (sL x).length = 0)) (va_A w sz)) 8 48 (va_A w sz) := by
  obtain ⟨wD, wR, wS, hWD, hWR, hWS, rfl⟩ := id hw
  refine lz_ofX (Qf := fun A => va_Qi (fun (r : Int32) (w1 : va_W) => (kn n a ∧ kn n b) ∧ (inF c4N c4P f) ∧ (R.length < 64 ∧ sT x = 0 ∧ (sL x).length = 0) ∧ r = nI (R.length + 1) ∧ WC cI cF cQ o n ev (R ++ [(tn a, tn b, f)]) x w1) (fun w1 t => va_P D vwCl w1 t.heap) A) (XF := fun A => xW D (skW cF o n ev x wD wR wS) (xc eI eA eS (kn n a ∧ kn n b) (inF c4N c4P f) (R.length < 64 ∧ sT x = 0 ∧ (sL x).length = 0)) A) (cc := cX3_drift) (maxL := 4) (ret := (some .int)) (by decide) rfl (Nat.le_of_ble_eq_true rfl) ?_
  intro p e s m below meth c A hAe hsz htab hx hb hr hlk hC hP hD hS ls hl
  clear hAe
  have hts := hC.1.2.2.2.2
  have hown : s.vm.findClass RX3 = some m.cls := hC.1.2.2.2.1
  have hml := hC.1.2.2.1
  have hA := hC.2.1
  have hK := hC.2.2.2.1
  have hnm := hC.2.2.2.2.1
  have hnf := hC.2.2.2.2.2.1
  have hiX3 : ∀ w ∈ u_ws RX3 TX3 7, w ∈ wsX3_drift := fun _ h => List.mem_cons_of_mem _ (List.mem_append_left _ (List.mem_append_left _ (List.mem_append_left _ (List.mem_append_left _ (List.mem_append_left _ (List.mem_append_right _ h))))))
  have hiX0 : ∀ w ∈ u_ws RX0 TX0 4, w ∈ wsX3_drift := fun _ h => List.mem_cons_of_mem _ (List.mem_append_left _ (List.mem_append_left _ (List.mem_append_left _ (List.mem_append_left _ (List.mem_append_right _ h)))))
  have hiX1 : ∀ w ∈ u_ws RX1 TX1 5, w ∈ wsX3_drift := fun _ h => List.mem_cons_of_mem _ (List.mem_append_left _ (List.mem_append_left _ (List.mem_append_left _ (List.mem_append_right _ h))))
  have hl : lv_has ls 4 [(0, .ref (o 0)), (1, .int a), (2, .int b), (3, .float f)] := hl
  have hn9 := hx0.1.2
  have hev9 := hx0.2.1
  have hR9 : dIn n R := hx0.2.2.1
  have hcf : cfin (sc x) := hx0.2.2.2.1
  have hT9 : sT x < 2 ^ 29 := hx0.2.2.2.2.1
  have hL9 : rIn n (sL x) := hx0.2.2.2.2.2.1
  have hS9 : sGood (sS x) := hx0.2.2.2.2.2.2.1
  have hL8 := hL9.1
  have hS8 := hS9.2.1
  have hR8 := hR9.1
  refine lv_aload_n hx hb dX3_drift_0 rfl (lv_at hl 0 rfl) ?_
  refine lv_iload_n hx hb dX3_drift_1 rfl (lv_at hl 1 rfl) ?_
  refine lx_cv (lx_runV (C := RX3) (As := [.int a]) (rest := []) hC hS hl (c_X3_needCell hw hn9) (cwV 1 hts gX3_drift_X3_needCell rfl rfl rfl (by decide +kernel) ⟨Nat.le_of_ble_eq_true rfl, Nat.le_of_ble_eq_true rfl⟩) hP hD (va_recv hK hP (ci := 3) (q0 := 0) rfl rfl) rfl rfl (Nat.le_of_ble_eq_true rfl) dX3_drift_2 ⟨Nat.le_of_ble_eq_true rfl, Nat.le_of_ble_eq_true rfl⟩) hD hS hA (fun E9 ce9 q9 H locs hE9 hP hS h91 h92 h93 => lx_out htab hlk h91 h92 h93 (Or.inl ⟨hE9.1, fun q => hE9.2 q.1⟩) hP hS (Nat.le_of_ble_eq_true rfl) (Nat.le_of_ble_eq_true rfl)) (fun H locs ha9 hP hS => ?_)
  refine lv_aload_n hx hb dX3_drift_5 rfl (lv_at hl 0 rfl) ?_
  refine lv_iload_n hx hb dX3_drift_6 rfl (lv_at hl 2 rfl) ?_
  refine lx_cv (lx_runV (C := RX3) (As := [.int b]) (rest := []) hC hS hl (c_X3_needCell hw hn9) (cwV 1 hts gX3_drift_X3_needCell rfl rfl rfl (by decide +kernel) ⟨Nat.le_of_ble_eq_true rfl, Nat.le_of_ble_eq_true rfl⟩) hP hD (va_recv hK hP (ci := 3) (q0 := 0) rfl rfl) rfl rfl (Nat.le_of_ble_eq_true rfl) dX3_drift_7 ⟨Nat.le_of_ble_eq_true rfl, Nat.le_of_ble_eq_true rfl⟩) hD hS hA (fun E9 ce9 q9 H locs hE9 hP hS h91 h92 h93 => lx_out htab hlk h91 h92 h93 (Or.inl ⟨hE9.1, fun q => hE9.2 q.2⟩) hP hS (Nat.le_of_ble_eq_true rfl) (Nat.le_of_ble_eq_true rfl)) (fun H locs hb9 hP hS => ?_)
  have hp1 : (kn n a ∧ kn n b) := ⟨ha9, hb9⟩
  obtain ⟨u, hu8, rfl, hu⟩ := iz_nat ha9.1
  obtain ⟨v, hv8, rfl, hv⟩ := iz_nat hb9.1
  have hl : lv_has ls 4 [(0, .ref (o 0)), (1, .int (nI u)), (2, .int (nI v)), (3, .float f)] := hl
  refine lv_fload_n hx hb dX3_drift_10 rfl (lv_at hl 3 rfl) ?_
  refine lv_ldcf (v := c4N) hx hb hown (hts (.constantFloat RX3 39 (3229614080)) (List.mem_of_getElem? (i := 5) rfl)) dX3_drift_11 ?_
  refine lv_fcmp hx hb dX3_drift_13 ?_
  refine lv_if_lt (tgt := 24) hx hb dX3_drift_14 (by decide) (fun c_1 => ?_) (fun c_1 => ?_)
  · exact lx_thA (text := "factor is not -4 .. 4") (is := 43) (by decide) hC hx hb htab hlk hl hP hS (hts (.classLink RX3 41 "java/lang/IllegalArgumentException") (List.mem_of_getElem? (i := 1) rfl)) (hts (.initialized "java/lang/IllegalArgumentException") (List.mem_of_getElem? (i := 2) rfl)) (fun _ h9 => List.mem_cons_of_mem _ (List.mem_append_left _ (List.mem_append_left _ (List.mem_append_right _ h9)))) dX3_drift_24 dX3_drift_27 dX3_drift_28 dX3_drift_30 dX3_drift_33 (Nat.le_of_ble_eq_true rfl) (Nat.le_of_ble_eq_true rfl) (Nat.le_of_ble_eq_true rfl) (Nat.le_of_ble_eq_true rfl) (Or.inr (Or.inl ⟨rfl, hp1, fun q => (fl_ltl _ _).mp c_1 q.1⟩)) (Nat.le_of_ble_eq_true rfl) (Nat.le_of_ble_eq_true rfl)
  · have h3 := Decidable.not_not.mp (mt (fl_ltl _ _).mpr c_1)
    refine lv_fload_n hx hb dX3_drift_17 rfl (lv_at hl 3 rfl) ?_
    refine lv_ldcf (v := c4P) hx hb hown (hts (.constantFloat RX3 40 (1082130432)) (List.mem_of_getElem? (i := 6) rfl)) dX3_drift_18 ?_
    refine lv_fcmp hx hb dX3_drift_20 ?_
    refine lv_if_le (tgt := 34) hx hb dX3_drift_21 (by decide) (fun c_2 => ?_) (fun c_2 => ?_)
    · have hp2 : inF c4N c4P f := ⟨h3, (fl_leg _ _).mp c_2⟩
      obtain ⟨d1, d2, d3, hdr, rfl⟩ := id hWD
      obtain ⟨g1, g2, g3, g4, hrec, rfl⟩ := id hWR
      refine lv_aload_n hx hb dX3_drift_34 rfl (lv_at hl 0 rfl) ?_
      refine va_get (D := D) (ci := 3) (v := .ref (o 2)) (C := RX3) (T := TX3) (N := 7) hx hb hts hiX3 hown hK hP 0 rfl rfl 1 (by decide) (hts (.fieldLink RX3 16 "StateKeeper" "driftList" "LStateKeeper$Drifts;") (List.mem_of_getElem? (i := 7) rfl)) (fun _ h9 => h9) rfl dX3_drift_35 ?_
      have hPc : va_P D vwCl (drW cI cF o R.length d1 d2 d3) _ := lz_cutP (sk_pD ((o 0), .inr (3, [.ref (o 1), .ref (o 2), .ref (o 6), .ref (o 11), .int (nI (sT x)), .int (nI ev), .int (sd x)])) ((o 1), .inl (cF, n, .inr (.inr (.inl (sc x))))) (drW cI cF o R.length d1 d2 d3) (recW cI cF o (sL x).length g1 g2 g3 g4) wS) hP
      have hDc : va_D A (drW cI cF o R.length d1 d2 d3) := lz_cutD (sk_pD ((o 0), .inr (3, [.ref (o 1), .ref (o 2), .ref (o 6), .ref (o 11), .int (nI (sT x)), .int (nI ev), .int (sd x)])) ((o 1), .inl (cF, n, .inr (.inr (.inl (sc x))))) (drW cI cF o R.length d1 d2 d3) (recW cI cF o (sL x).length g1 g2 g3 g4) wS) hD
      refine va_getN (D := D) (ci := 0) (v := .int (nI R.length)) (C := RX0) (T := TX0) (N := 4) (host := "StateKeeper") hx hb hts hiX0 hown hK hPc 0 rfl rfl 3 (by decide) (va_Nw.use rfl (hnf (RX3, 48, RX0, "size", "I") (by decide))) (fun _ h9 => h9) rfl dX3_drift_38 ?_
      refine lv_bipush (v := nI 64) hx hb dX3_drift_41 (by decide) ?_
      refine lv_icmp_lt (tgt := 56) hx hb dX3_drift_43 (by decide) (fun c_3 => ?_) (fun c_3 => ?_)
      · have hlt := (nI_lt_iff (by omega) (by omega)).mp c_3
        refine lv_aload_n hx hb dX3_drift_56 rfl (lv_at hl 0 rfl) ?_
        refine va_get (D := D) (ci := 3) (v := .int (nI (sT x))) (C := RX3) (T := TX3) (N := 7) hx hb hts hiX3 hown hK hP 0 rfl rfl 4 (by decide) (hts (.fieldLink RX3 57 "StateKeeper" "present" "I") (List.mem_of_getElem? (i := 8) rfl)) (fun _ h9 => h9) rfl dX3_drift_57 ?_
        refine lv_if_ne (tgt := 73) hx hb dX3_drift_60 (by decide) (fun c_4 => ?_) (fun c_4 => ?_)
        · exact lx_thS (text := "the world has begun") (is := 61) (by decide) hC hx hb htab hlk hl hP hS (hts (.classLink RX3 52 "java/lang/IllegalStateException") (List.mem_of_getElem? (i := 3) rfl)) (hts (.initialized "java/lang/IllegalStateException") (List.mem_of_getElem? (i := 4) rfl)) (fun _ h9 => List.mem_cons_of_mem _ (List.mem_append_left _ (List.mem_append_right _ h9))) dX3_drift_73 dX3_drift_76 dX3_drift_77 dX3_drift_79 dX3_drift_82 (Nat.le_of_ble_eq_true rfl) (Nat.le_of_ble_eq_true rfl) (Nat.le_of_ble_eq_true rfl) (Nat.le_of_ble_eq_true rfl) (Or.inr (Or.inr ⟨rfl, hp1, hp2, fun q => c_4 ((iz_ne0 (by omega)).mpr q.2.1)⟩)) (Nat.le_of_ble_eq_true rfl) (Nat.le_of_ble_eq_true rfl)
        · have hT0 := (iz_ne0 (by omega)).mp c_4
          refine lv_aload_n hx hb dX3_drift_63 rfl (lv_at hl 0 rfl) ?_
          refine va_get (D := D) (ci := 3) (v := .ref (o 6)) (C := RX3) (T := TX3) (N := 7) hx hb hts hiX3 hown hK hP 0 rfl rfl 2 (by decide) (hts (.fieldLink RX3 23 "StateKeeper" "inputRecord" "LStateKeeper$InputRecord;") (List.mem_of_getElem? (i := 9) rfl)) (fun _ h9 => h9) rfl dX3_drift_64 ?_
          have hPc : va_P D vwCl (recW cI cF o (sL x).length g1 g2 g3 g4) _ := lz_cutP (sk_pR ((o 0), .inr (3, [.ref (o 1), .ref (o 2), .ref (o 6), .ref (o 11), .int (nI (sT x)), .int (nI ev), .int (sd x)])) ((o 1), .inl (cF, n, .inr (.inr (.inl (sc x))))) (drW cI cF o R.length d1 d2 d3) (recW cI cF o (sL x).length g1 g2 g3 g4) wS) hP
          have hDc : va_D A (recW cI cF o (sL x).length g1 g2 g3 g4) := lz_cutD (sk_pR ((o 0), .inr (3, [.ref (o 1), .ref (o 2), .ref (o 6), .ref (o 11), .int (nI (sT x)), .int (nI ev), .int (sd x)])) ((o 1), .inl (cF, n, .inr (.inr (.inl (sc x))))) (drW cI cF o R.length d1 d2 d3) (recW cI cF o (sL x).length g1 g2 g3 g4) wS) hD
          refine va_getN (D := D) (ci := 1) (v := .int (nI (sL x).length)) (C := RX1) (T := TX1) (N := 5) (host := "StateKeeper") hx hb hts hiX1 hown hK hPc 0 rfl rfl 4 (by decide) (va_Nw.use rfl (hnf (RX3, 60, RX1, "size", "I") (by decide))) (fun _ h9 => h9) rfl dX3_drift_67 ?_
          refine lv_if_eq (tgt := 83) hx hb dX3_drift_70 (by decide) (fun c_5 => ?_) (fun c_5 => ?_)
          · have hL0 := (iz_ne0 (by omega)).mp c_5
            refine lv_aload_n hx hb dX3_drift_83 rfl (lv_at hl 0 rfl) ?_
            refine va_get (D := D) (ci := 3) (v := .ref (o 2)) (C := RX3) (T := TX3) (N := 7) hx hb hts hiX3 hown hK hP 0 rfl rfl 1 (by decide) (hts (.fieldLink RX3 16 "StateKeeper" "driftList" "LStateKeeper$Drifts;") (List.mem_of_getElem? (i := 7) rfl)) (fun _ h9 => h9) rfl dX3_drift_84 ?_
            refine lv_iload_n hx hb dX3_drift_87 rfl (lv_at hl 1 rfl) ?_
            refine lv_iload_n hx hb dX3_drift_88 rfl (lv_at hl 2 rfl) ?_
            refine lv_fload_n hx hb dX3_drift_89 rfl (lv_at hl 3 rfl) ?_
            have hPc : va_P D vwCl (drW cI cF o R.length d1 d2 d3) _ := lz_cutP (sk_pD ((o 0), .inr (3, [.ref (o 1), .ref (o 2), .ref (o 6), .ref (o 11), .int (nI (sT x)), .int (nI ev), .int (sd x)])) ((o 1), .inl (cF, n, .inr (.inr (.inl (sc x))))) (drW cI cF o R.length d1 d2 d3) (recW cI cF o (sL x).length g1 g2 g3 g4) wS) hP
            have hDc : va_D A (drW cI cF o R.length d1 d2 d3) := lz_cutD (sk_pD ((o 0), .inr (3, [.ref (o 1), .ref (o 2), .ref (o 6), .ref (o 11), .int (nI (sT x)), .int (nI ev), .int (sd x)])) ((o 1), .inl (cF, n, .inr (.inr (.inl (sc x))))) (drW cI cF o R.length d1 d2 d3) (recW cI cF o (sL x).length g1 g2 g3 g4) wS) hD
            refine lz_cMv (w2 := fun w1 => w1 ++ (((o 0), .inr (3, [.ref (o 1), .ref (o 2), .ref (o 6), .ref (o 11), .int (nI (sT x)), .int (nI ev), .int (sd x)])) :: ((o 1), .inl (cF, n, .inr (.inr (.inl (sc x))))) :: ((recW cI cF o (sL x).length g1 g2 g3 g4) ++ wS))) (lz_runVN (C := RX0) (As := [.int (nI u), .int (nI v), .float f]) (rest := []) hC hS hl (c_X0_append hdr hR9 hlt) ⟨va_cnB 3 hts gX3_drift_X0_append_n63 rfl rfl rfl (hnm (RX3, 63, yX0_append) (by decide)) (hts (.initialized RX0) (List.mem_of_getElem? (i := 19) rfl)) (by decide +kernel) ⟨Nat.le_of_ble_eq_true rfl, Nat.le_of_ble_eq_true rfl⟩, (hts (.instanceMethod yX0_append) (List.mem_of_getElem? (i := 18) rfl)), (hts (.selects RX0 yX0_append yX0_append) (List.mem_of_getElem? (i := 20) rfl))⟩ hPc hDc (va_recv hK hPc (ci := 0) (q0 := 0) rfl rfl) rfl rfl (Nat.le_of_ble_eq_true rfl) dX3_drift_90 ⟨Nat.le_of_ble_eq_true rfl, Nat.le_of_ble_eq_true rfl⟩) hP hD hS hA (sk_pD ((o 0), .inr (3, [.ref (o 1), .ref (o 2), .ref (o 6), .ref (o 11), .int (nI (sT x)), .int (nI ev), .int (sd x)])) ((o 1), .inl (cF, n, .inr (.inr (.inl (sc x))))) (drW cI cF o R.length d1 d2 d3) (recW cI cF o (sL x).length g1 g2 g3 g4) wS) (fun w1 h => h.ad2 hWD) (fun _ => List.Perm.refl _) (fun w1 H locs hpo hP hD hS => ?_)
            have hWD2 := hpo
            replace hP := lz_permP (sk_pD ((o 0), .inr (3, [.ref (o 1), .ref (o 2), .ref (o 6), .ref (o 11), .int (nI (sT x)), .int (nI ev), .int (sd x)])) ((o 1), .inl (cF, n, .inr (.inr (.inl (sc x))))) w1 (recW cI cF o (sL x).length g1 g2 g3 g4) wS).symm hP
            replace hD := lz_permD (sk_pD ((o 0), .inr (3, [.ref (o 1), .ref (o 2), .ref (o 6), .ref (o 11), .int (nI (sT x)), .int (nI ev), .int (sd x)])) ((o 1), .inl (cF, n, .inr (.inr (.inl (sc x))))) w1 (recW cI cF o (sL x).length g1 g2 g3 g4) wS).symm hD
            have hP : va_P D vwCl (((o 0), .inr (3, [.ref (o 1), .ref (o 2), .ref (o 6), .ref (o 11), .int (nI (sT x)), .int (nI ev), .int (sd x)])) :: ((o 1), .inl (cF, n, .inr (.inr (.inl (sc x))))) :: (w1 ++ ((recW cI cF o (sL x).length g1 g2 g3 g4) ++ wS))) H := hP
            have hD : va_D A (((o 0), .inr (3, [.ref (o 1), .ref (o 2), .ref (o 6), .ref (o 11), .int (nI (sT x)), .int (nI ev), .int (sd x)])) :: ((o 1), .inl (cF, n, .inr (.inr (.inl (sc x))))) :: (w1 ++ ((recW cI cF o (sL x).length g1 g2 g3 g4) ++ wS))) := hD
            obtain ⟨d12, d22, d32, hdr2, rfl⟩ := id hWD2
            refine lv_aload_n hx hb dX3_drift_93 rfl (lv_at hl 0 rfl) ?_
            refine va_get (D := D) (ci := 3) (v := .ref (o 2)) (C := RX3) (T := TX3) (N := 7) hx hb hts hiX3 hown hK hP 0 rfl rfl 1 (by decide) (hts (.fieldLink RX3 16 "StateKeeper" "driftList" "LStateKeeper$Drifts;") (List.mem_of_getElem? (i := 7) rfl)) (fun _ h9 => h9) rfl dX3_drift_94 ?_
            have hPc : va_P D vwCl (drW cI cF o (R ++ [(u, v, f)]).length d12 d22 d32) _ := lz_cutP (sk_pD ((o 0), .inr (3, [.ref (o 1), .ref (o 2), .ref (o 6), .ref (o 11), .int (nI (sT x)), .int (nI ev), .int (sd x)])) ((o 1), .inl (cF, n, .inr (.inr (.inl (sc x))))) (drW cI cF o (R ++ [(u, v, f)]).length d12 d22 d32) (recW cI cF o (sL x).length g1 g2 g3 g4) wS) hP
            have hDc : va_D A (drW cI cF o (R ++ [(u, v, f)]).length d12 d22 d32) := lz_cutD (sk_pD ((o 0), .inr (3, [.ref (o 1), .ref (o 2), .ref (o 6), .ref (o 11), .int (nI (sT x)), .int (nI ev), .int (sd x)])) ((o 1), .inl (cF, n, .inr (.inr (.inl (sc x))))) (drW cI cF o (R ++ [(u, v, f)]).length d12 d22 d32) (recW cI cF o (sL x).length g1 g2 g3 g4) wS) hD
            refine va_getN (D := D) (ci := 0) (v := .int (nI (R ++ [(u, v, f)]).length)) (C := RX0) (T := TX0) (N := 4) (host := "StateKeeper") hx hb hts hiX0 hown hK hPc 0 rfl rfl 3 (by decide) (va_Nw.use rfl (hnf (RX3, 48, RX0, "size", "I") (by decide))) (fun _ h9 => h9) rfl dX3_drift_97 ?_
            refine lz_i (y := nI (R.length + 1)) (by rw [List.length_append]; rfl) ?_
            refine vx_ret (W.widen (k := 8) (n := 48) (Nat.le_of_ble_eq_true rfl) (Nat.le_of_ble_eq_true rfl) ?_)
            exact W.iret hx hb hr (fun t9 ht9 _ => ⟨⟨_, (((o 0), .inr (3, [.ref (o 1), .ref (o 2), .ref (o 6), .ref (o 11), .int (nI (sT x)), .int (nI ev), .int (sd x)])) :: ((o 1), .inl (cF, n, .inr (.inr (.inl (sc x))))) :: ((drW cI cF o (R ++ [(u, v, f)]).length d12 d22 d32) ++ ((recW cI cF o (sL x).length g1 g2 g3 g4) ++ wS))), rfl, ⟨hp1, hp2, ⟨hlt, hT0, hL0⟩, rfl, (drW cI cF o (R ++ [(u, v, f)]).length d12 d22 d32), (recW cI cF o (sL x).length g1 g2 g3 g4), wS, by rw [tn_nI hu8, tn_nI hv8]; exact hWD2, hWR, hWS, rfl⟩, by show va_P D vwCl _ t9.heap; rw [ht9]; exact hP⟩, hS.F ht9⟩) hS.2.2 dX3_drift_100
          · exact lx_thS (text := "the world has begun") (is := 61) (by decide) hC hx hb htab hlk hl hP hS (hts (.classLink RX3 52 "java/lang/IllegalStateException") (List.mem_of_getElem? (i := 3) rfl)) (hts (.initialized "java/lang/IllegalStateException") (List.mem_of_getElem? (i := 4) rfl)) (fun _ h9 => List.mem_cons_of_mem _ (List.mem_append_left _ (List.mem_append_right _ h9))) dX3_drift_73 dX3_drift_76 dX3_drift_77 dX3_drift_79 dX3_drift_82 (Nat.le_of_ble_eq_true rfl) (Nat.le_of_ble_eq_true rfl) (Nat.le_of_ble_eq_true rfl) (Nat.le_of_ble_eq_true rfl) (Or.inr (Or.inr ⟨rfl, hp1, hp2, fun q => c_5 ((iz_ne0 (by omega)).mpr q.2.2)⟩)) (Nat.le_of_ble_eq_true rfl) (Nat.le_of_ble_eq_true rfl)
      · exact lx_thS (text := "there are 64 drifts") (is := 54) (by decide) hC hx hb htab hlk hl hP hS (hts (.classLink RX3 52 "java/lang/IllegalStateException") (List.mem_of_getElem? (i := 3) rfl)) (hts (.initialized "java/lang/IllegalStateException") (List.mem_of_getElem? (i := 4) rfl)) (fun _ h9 => List.mem_cons_of_mem _ (List.mem_append_left _ (List.mem_append_right _ h9))) dX3_drift_46 dX3_drift_49 dX3_drift_50 dX3_drift_52 dX3_drift_55 (Nat.le_of_ble_eq_true rfl) (Nat.le_of_ble_eq_true rfl) (Nat.le_of_ble_eq_true rfl) (Nat.le_of_ble_eq_true rfl) (Or.inr (Or.inr ⟨rfl, hp1, hp2, fun q => c_3 ((nI_lt_iff (by omega) (by omega)).mpr q.1)⟩)) (Nat.le_of_ble_eq_true rfl) (Nat.le_of_ble_eq_true rfl)
    · exact lx_thA (text := "factor is not -4 .. 4") (is := 43) (by decide) hC hx hb htab hlk hl hP hS (hts (.classLink RX3 41 "java/lang/IllegalArgumentException") (List.mem_of_getElem? (i := 1) rfl)) (hts (.initialized "java/lang/IllegalArgumentException") (List.mem_of_getElem? (i := 2) rfl)) (fun _ h9 => List.mem_cons_of_mem _ (List.mem_append_left _ (List.mem_append_left _ (List.mem_append_right _ h9)))) dX3_drift_24 dX3_drift_27 dX3_drift_28 dX3_drift_30 dX3_drift_33 (Nat.le_of_ble_eq_true rfl) (Nat.le_of_ble_eq_true rfl) (Nat.le_of_ble_eq_true rfl) (Nat.le_of_ble_eq_true rfl) (Or.inr (Or.inl ⟨rfl, hp1, fun q => c_2 ((fl_leg _ _).mpr q.2)⟩)) (Nat.le_of_ble_eq_true rfl) (Nat.le_of_ble_eq_true rfl)

set_option maxRecDepth 100000 in
set_option maxHeartbeats 4000000 in
/-- every(n) -/
theorem c_X3_every {z : Int32} (hw : WC cI cF cQ o n ev R x w) (hx0 : Ok n ev R x) (hs : srt (sL x)) : vx_Met l yX3_every wsX3_every (rmk 9 8 48) (pcW l D cI cF cQ aT [.ref (o 0), .int z] w sz) (va_Qi (fun (r : Int32) (w1 : va_W) => (0 ≤ z.toInt ∧ z.toInt ≤ 100) ∧ r = nI ev ∧ WC cI cF cQ o n (tn z) R x w1) (fun w1 t => va_P D vwCl w1 t.heap) (va_A w sz)) (xW D w (xc eA eA eA (0 ≤ z.toInt ∧ z.toInt ≤ 100) True True) (va_A w sz)) 8 48 (va_A w sz) := by
  obtain ⟨wD, wR, wS, hWD, hWR, hWS, rfl⟩ := id hw
  refine lz_ofX (Qf := fun A => va_Qi (fun (r : Int32) (w1 : va_W) => (0 ≤ z.toInt ∧ z.toInt ≤ 100) ∧ r = nI ev ∧ WC cI cF cQ o n (tn z) R x w1) (fun w1 t => va_P D vwCl w1 t.heap) A) (XF := fun A => xW D (skW cF o n ev x wD wR wS) (xc eA eA eA (0 ≤ z.toInt ∧ z.toInt ≤ 100) True True) A) (cc := cX3_every) (maxL := 3) (ret := (some .int)) (by decide) rfl (Nat.le_of_ble_eq_true rfl) ?_
  intro p e s m below meth c A hAe hsz htab hx hb hr hlk hC hP hD hS ls hl
  clear hAe
  have hts := hC.1.2.2.2.2
  have hown : s.vm.findClass RX3 = some m.cls := hC.1.2.2.2.1
  have hml := hC.1.2.2.1
  have hA := hC.2.1
  have hK := hC.2.2.2.1
  have hnm := hC.2.2.2.2.1
  have hnf := hC.2.2.2.2.2.1
  have hiX3 : ∀ w ∈ u_ws RX3 TX3 7, w ∈ wsX3_every := fun _ h => List.mem_cons_of_mem _ (List.mem_append_left _ (List.mem_append_right _ h))
  have hl : lv_has ls 3 [(0, .ref (o 0)), (1, .int z)] := hl
  have hn9 := hx0.1.2
  have hev9 := hx0.2.1
  have hR9 : dIn n R := hx0.2.2.1
  have hcf : cfin (sc x) := hx0.2.2.2.1
  have hT9 : sT x < 2 ^ 29 := hx0.2.2.2.2.1
  have hL9 : rIn n (sL x) := hx0.2.2.2.2.2.1
  have hS9 : sGood (sS x) := hx0.2.2.2.2.2.2.1
  have hL8 := hL9.1
  have hS8 := hS9.2.1
  have hR8 := hR9.1
  refine lv_iload_n hx hb dX3_every_0 rfl (lv_at hl 1 rfl) ?_
  refine lv_if_lt (tgt := 10) hx hb dX3_every_1 (by decide) (fun c_1 => ?_) (fun c_1 => ?_)
  · exact lx_thA (text := "n is not 0 .. 100") (is := 67) (by decide) hC hx hb htab hlk hl hP hS (hts (.classLink RX3 41 "java/lang/IllegalArgumentException") (List.mem_of_getElem? (i := 1) rfl)) (hts (.initialized "java/lang/IllegalArgumentException") (List.mem_of_getElem? (i := 2) rfl)) (fun _ h9 => List.mem_cons_of_mem _ (List.mem_append_right _ h9)) dX3_every_10 dX3_every_13 dX3_every_14 dX3_every_16 dX3_every_19 (Nat.le_of_ble_eq_true rfl) (Nat.le_of_ble_eq_true rfl) (Nat.le_of_ble_eq_true rfl) (Nat.le_of_ble_eq_true rfl) (Or.inl ⟨rfl, fun q => absurd (iz_lt0.mp c_1) (by omega)⟩) (Nat.le_of_ble_eq_true rfl) (Nat.le_of_ble_eq_true rfl)
  · have h0 : 0 ≤ z.toInt := by have := mt iz_lt0.mpr c_1; omega
    refine lv_iload_n hx hb dX3_every_4 rfl (lv_at hl 1 rfl) ?_
    refine lv_bipush (v := nI 100) hx hb dX3_every_5 (by decide) ?_
    refine lv_icmp_le (tgt := 20) hx hb dX3_every_7 (by decide) (fun c_2 => ?_) (fun c_2 => ?_)
    · have h1 : z.toInt ≤ 100 := (iz_le_r (a := 100) (by omega)).mp c_2
      obtain ⟨u, hu8, rfl, hu⟩ := iz_nat h0
      have hl : lv_has ls 3 [(0, .ref (o 0)), (1, .int (nI u))] := hl
      refine lv_aload_n hx hb dX3_every_20 rfl (lv_at hl 0 rfl) ?_
      refine va_get (D := D) (ci := 3) (v := .int (nI ev)) (C := RX3) (T := TX3) (N := 7) hx hb hts hiX3 hown hK hP 0 rfl rfl 5 (by decide) (hts (.fieldLink RX3 69 "StateKeeper" "interval" "I") (List.mem_of_getElem? (i := 3) rfl)) (fun _ h9 => h9) rfl dX3_every_21 ?_
      refine lv_istore_n (lv' := [(2, .int (nI ev)), (0, .ref (o 0)), (1, .int (nI u))]) hx hb dX3_every_24 rfl hl (by decide) rfl (fun ls hl => ?_)
      refine lv_aload_n hx hb dX3_every_25 rfl (lv_at hl 1 rfl) ?_
      refine lv_iload_n hx hb dX3_every_26 rfl (lv_at hl 2 rfl) ?_
      refine va_put (D := D) (ci := 3) (v := .int (nI u)) (ty := .int) (C := RX3) (T := TX3) (N := 7) hx hb hts hiX3 tyX3 tyX3_ok nmX3 hown hK hP hD hS 0 rfl rfl 5 (by decide) (hts (.fieldLink RX3 69 "StateKeeper" "interval" "I") (List.mem_of_getElem? (i := 3) rfl)) (fun _ h9 => h9) rfl (by decide +kernel) rfl rfl (Nat.le_of_ble_eq_true rfl) dX3_every_27 (fun H locs hP hD hS => ?_)
      have hP : va_P D vwCl (((o 0), .inr (3, [.ref (o 1), .ref (o 2), .ref (o 6), .ref (o 11), .int (nI (sT x)), .int (nI u), .int (sd x)])) :: ((o 1), .inl (cF, n, .inr (.inr (.inl (sc x))))) :: (wD ++ (wR ++ wS))) H := hP
      have hD : va_D A (((o 0), .inr (3, [.ref (o 1), .ref (o 2), .ref (o 6), .ref (o 11), .int (nI (sT x)), .int (nI u), .int (sd x)])) :: ((o 1), .inl (cF, n, .inr (.inr (.inl (sc x))))) :: (wD ++ (wR ++ wS))) := hD
      refine lv_iload_n hx hb dX3_every_30 rfl (lv_at hl 0 rfl) ?_
      refine vx_ret (W.widen (k := 8) (n := 48) (Nat.le_of_ble_eq_true rfl) (Nat.le_of_ble_eq_true rfl) ?_)
      exact W.iret hx hb hr (fun t9 ht9 _ => ⟨⟨_, (((o 0), .inr (3, [.ref (o 1), .ref (o 2), .ref (o 6), .ref (o 11), .int (nI (sT x)), .int (nI u), .int (sd x)])) :: ((o 1), .inl (cF, n, .inr (.inr (.inl (sc x))))) :: (wD ++ (wR ++ wS))), rfl, ⟨⟨h0, h1⟩, rfl, wD, wR, wS, hWD, hWR, hWS, by rw [tn_nI hu8]⟩, by show va_P D vwCl _ t9.heap; rw [ht9]; exact hP⟩, hS.F ht9⟩) hS.2.2 dX3_every_31
    · exact lx_thA (text := "n is not 0 .. 100") (is := 67) (by decide) hC hx hb htab hlk hl hP hS (hts (.classLink RX3 41 "java/lang/IllegalArgumentException") (List.mem_of_getElem? (i := 1) rfl)) (hts (.initialized "java/lang/IllegalArgumentException") (List.mem_of_getElem? (i := 2) rfl)) (fun _ h9 => List.mem_cons_of_mem _ (List.mem_append_right _ h9)) dX3_every_10 dX3_every_13 dX3_every_14 dX3_every_16 dX3_every_19 (Nat.le_of_ble_eq_true rfl) (Nat.le_of_ble_eq_true rfl) (Nat.le_of_ble_eq_true rfl) (Nat.le_of_ble_eq_true rfl) (Or.inl ⟨rfl, fun q => c_2 ((iz_le_r (by omega)).mpr q.2)⟩) (Nat.le_of_ble_eq_true rfl) (Nat.le_of_ble_eq_true rfl)

set_option maxRecDepth 100000 in
set_option maxHeartbeats 4000000 in
/-- input(cell, way, v) -/
theorem c_X3_input {z q : Int32} {v : UInt32} (hw : WC cI cF cQ o n ev R x w) (hx0 : Ok n ev R x) (hs : srt (sL x)) : vx_Met l yX3_input wsX3_input (rmk 9 8 48) (pcW l D cI cF cQ aT [.ref (o 0), .int z, .int q, .float v] w sz) (va_Qi (fun (r : Int32) (w1 : va_W) => (kn n z) ∧ (okW q v) ∧ (1 + (sL x).length ≤ 512) ∧ r = nI (cq (rins (sL x) (sT x, tn z, tn q, v)) (sT x : Int)) ∧ WC cI cF cQ o n ev R (stL x (rins (sL x) (sT x, tn z, tn q, v))) w1) (fun w1 t => va_P D vwCl w1 t.heap) (va_A w sz)) (xW D w (xc eI eA eS (kn n z) (okW q v) (1 + (sL x).length ≤ 512)) (va_A w sz)) 8 48 (va_A w sz) := by
  obtain ⟨wD, wR, wS, hWD, hWR, hWS, rfl⟩ := id hw
  refine lz_ofX (Qf := fun A => va_Qi (fun (r : Int32) (w1 : va_W) => (kn n z) ∧ (okW q v) ∧ (1 + (sL x).length ≤ 512) ∧ r = nI (cq (rins (sL x) (sT x, tn z, tn q, v)) (sT x : Int)) ∧ WC cI cF cQ o n ev R (stL x (rins (sL x) (sT x, tn z, tn q, v))) w1) (fun w1 t => va_P D vwCl w1 t.heap) A) (XF := fun A => xW D (skW cF o n ev x wD wR wS) (xc eI eA eS (kn n z) (okW q v) (1 + (sL x).length ≤ 512)) A) (cc := cX3_input) (maxL := 4) (ret := (some .int)) (by decide) rfl (Nat.le_of_ble_eq_true rfl) ?_
  intro p e s m below meth c A hAe hsz htab hx hb hr hlk hC hP hD hS ls hl
  clear hAe
  have hts := hC.1.2.2.2.2
  have hown : s.vm.findClass RX3 = some m.cls := hC.1.2.2.2.1
  have hml := hC.1.2.2.1
  have hA := hC.2.1
  have hK := hC.2.2.2.1
  have hnm := hC.2.2.2.2.1
  have hnf := hC.2.2.2.2.2.1
  have hiX3 : ∀ w ∈ u_ws RX3 TX3 7, w ∈ wsX3_input := fun _ h => List.mem_cons_of_mem _ (List.mem_append_left _ (List.mem_append_left _ (List.mem_append_left _ (List.mem_append_left _ (List.mem_append_right _ h)))))
  have hiX1 : ∀ w ∈ u_ws RX1 TX1 5, w ∈ wsX3_input := fun _ h => List.mem_cons_of_mem _ (List.mem_append_left _ (List.mem_append_left _ (List.mem_append_left _ (List.mem_append_right _ h))))
  have hl : lv_has ls 4 [(0, .ref (o 0)), (1, .int z), (2, .int q), (3, .float v)] := hl
  have hn9 := hx0.1.2
  have hev9 := hx0.2.1
  have hR9 : dIn n R := hx0.2.2.1
  have hcf : cfin (sc x) := hx0.2.2.2.1
  have hT9 : sT x < 2 ^ 29 := hx0.2.2.2.2.1
  have hL9 : rIn n (sL x) := hx0.2.2.2.2.2.1
  have hS9 : sGood (sS x) := hx0.2.2.2.2.2.2.1
  have hL8 := hL9.1
  have hS8 := hS9.2.1
  have hR8 := hR9.1
  refine lv_aload_n hx hb dX3_input_0 rfl (lv_at hl 0 rfl) ?_
  refine lv_iload_n hx hb dX3_input_1 rfl (lv_at hl 1 rfl) ?_
  refine lx_cv (lx_runV (C := RX3) (As := [.int z]) (rest := []) hC hS hl (c_X3_needCell hw hn9) (cwV 1 hts gX3_input_X3_needCell rfl rfl rfl (by decide +kernel) ⟨Nat.le_of_ble_eq_true rfl, Nat.le_of_ble_eq_true rfl⟩) hP hD (va_recv hK hP (ci := 3) (q0 := 0) rfl rfl) rfl rfl (Nat.le_of_ble_eq_true rfl) dX3_input_2 ⟨Nat.le_of_ble_eq_true rfl, Nat.le_of_ble_eq_true rfl⟩) hD hS hA (fun E9 ce9 q9 H locs hE9 hP hS h91 h92 h93 => lx_out htab hlk h91 h92 h93 (Or.inl ⟨hE9.1, hE9.2⟩) hP hS (Nat.le_of_ble_eq_true rfl) (Nat.le_of_ble_eq_true rfl)) (fun H locs hp1 hP hS => ?_)
  refine lv_iload_n hx hb dX3_input_5 rfl (lv_at hl 2 rfl) ?_
  refine lv_fload_n hx hb dX3_input_6 rfl (lv_at hl 3 rfl) ?_
  refine lx_cv (lx_runS (As := [.int q, .float v]) (rest := []) hC hS hl c_X3_needWay (va_cwS 2 hts gX3_input_X3_needWayAndNumber rfl rfl rfl (by decide +kernel) ⟨Nat.le_of_ble_eq_true rfl, Nat.le_of_ble_eq_true rfl⟩) hP hD rfl rfl (Nat.le_of_ble_eq_true rfl) dX3_input_7 ⟨Nat.le_of_ble_eq_true rfl, Nat.le_of_ble_eq_true rfl⟩) hD hS hA (fun E9 ce9 q9 H locs hE9 hP hS h91 h92 h93 => lx_out htab hlk h91 h92 h93 (Or.inr (Or.inl ⟨hE9.1, hp1, hE9.2⟩)) hP hS (Nat.le_of_ble_eq_true rfl) (Nat.le_of_ble_eq_true rfl)) (fun H locs hp2 hP hS => ?_)
  refine lv_aload_n hx hb dX3_input_10 rfl (lv_at hl 0 rfl) ?_
  refine lv_iconst (v := nI 1) hx hb dX3_input_11 (by decide) ?_
  refine lx_cv (lx_runV (C := RX3) (As := [.int (nI 1)]) (rest := []) hC hS hl (c_X3_needRoom (k := 1) (by omega) hL8 hw) (cwV 1 hts gX3_input_X3_needRoom rfl rfl rfl (by decide +kernel) ⟨Nat.le_of_ble_eq_true rfl, Nat.le_of_ble_eq_true rfl⟩) hP hD (va_recv hK hP (ci := 3) (q0 := 0) rfl rfl) rfl rfl (Nat.le_of_ble_eq_true rfl) dX3_input_12 ⟨Nat.le_of_ble_eq_true rfl, Nat.le_of_ble_eq_true rfl⟩) hD hS hA (fun E9 ce9 q9 H locs hE9 hP hS h91 h92 h93 => lx_out htab hlk h91 h92 h93 (Or.inr (Or.inr ⟨hE9.1, hp1, hp2, hE9.2⟩)) hP hS (Nat.le_of_ble_eq_true rfl) (Nat.le_of_ble_eq_true rfl)) (fun H locs hp3 hP hS => ?_)
  obtain ⟨u, hu8, rfl, hu⟩ := iz_nat hp1.1
  obtain ⟨q0, hq8, rfl, hq⟩ := iz_nat hp2.1.1
  have hl : lv_has ls 4 [(0, .ref (o 0)), (1, .int (nI u)), (2, .int (nI q0)), (3, .float v)] := hl
  obtain ⟨g1, g2, g3, g4, hrec, rfl⟩ := id hWR
  refine lv_aload_n hx hb dX3_input_15 rfl (lv_at hl 0 rfl) ?_
  refine va_get (D := D) (ci := 3) (v := .ref (o 6)) (C := RX3) (T := TX3) (N := 7) hx hb hts hiX3 hown hK hP 0 rfl rfl 2 (by decide) (hts (.fieldLink RX3 23 "StateKeeper" "inputRecord" "LStateKeeper$InputRecord;") (List.mem_of_getElem? (i := 1) rfl)) (fun _ h9 => h9) rfl dX3_input_16 ?_
  refine lv_aload_n hx hb dX3_input_19 rfl (lv_at hl 0 rfl) ?_
  refine va_get (D := D) (ci := 3) (v := .int (nI (sT x))) (C := RX3) (T := TX3) (N := 7) hx hb hts hiX3 hown hK hP 0 rfl rfl 4 (by decide) (hts (.fieldLink RX3 57 "StateKeeper" "present" "I") (List.mem_of_getElem? (i := 2) rfl)) (fun _ h9 => h9) rfl dX3_input_20 ?_
  refine lv_iload_n hx hb dX3_input_23 rfl (lv_at hl 1 rfl) ?_
  refine lv_iload_n hx hb dX3_input_24 rfl (lv_at hl 2 rfl) ?_
  refine lv_fload_n hx hb dX3_input_25 rfl (lv_at hl 3 rfl) ?_
  have hPc : va_P D vwCl (recW cI cF o (sL x).length g1 g2 g3 g4) _ := lz_cutP (sk_pR ((o 0), .inr (3, [.ref (o 1), .ref (o 2), .ref (o 6), .ref (o 11), .int (nI (sT x)), .int (nI ev), .int (sd x)])) ((o 1), .inl (cF, n, .inr (.inr (.inl (sc x))))) wD (recW cI cF o (sL x).length g1 g2 g3 g4) wS) hP
  have hDc : va_D A (recW cI cF o (sL x).length g1 g2 g3 g4) := lz_cutD (sk_pR ((o 0), .inr (3, [.ref (o 1), .ref (o 2), .ref (o 6), .ref (o 11), .int (nI (sT x)), .int (nI ev), .int (sd x)])) ((o 1), .inl (cF, n, .inr (.inr (.inl (sc x))))) wD (recW cI cF o (sL x).length g1 g2 g3 g4) wS) hD
  refine lz_cMv (w2 := fun w1 => w1 ++ (((o 0), .inr (3, [.ref (o 1), .ref (o 2), .ref (o 6), .ref (o 11), .int (nI (sT x)), .int (nI ev), .int (sd x)])) :: ((o 1), .inl (cF, n, .inr (.inr (.inl (sc x))))) :: (wD ++ wS))) (lz_runVN (C := RX1) (As := [.int (nI (sT x)), .int (nI u), .int (nI q0), .float v]) (rest := []) hC hS hl (c_X1_append hrec hs hL9 (show sT x < 2 ^ 30 by omega) (by omega)) ⟨va_cnB 4 hts gX3_input_X1_append_n79 rfl rfl rfl (hnm (RX3, 79, yX1_append) (by decide)) (hts (.initialized RX1) (List.mem_of_getElem? (i := 25) rfl)) (by decide +kernel) ⟨Nat.le_of_ble_eq_true rfl, Nat.le_of_ble_eq_true rfl⟩, (hts (.instanceMethod yX1_append) (List.mem_of_getElem? (i := 24) rfl)), (hts (.selects RX1 yX1_append yX1_append) (List.mem_of_getElem? (i := 26) rfl))⟩ hPc hDc (va_recv hK hPc (ci := 1) (q0 := 0) rfl rfl) rfl rfl (Nat.le_of_ble_eq_true rfl) dX3_input_26 ⟨Nat.le_of_ble_eq_true rfl, Nat.le_of_ble_eq_true rfl⟩) hP hD hS hA (sk_pR ((o 0), .inr (3, [.ref (o 1), .ref (o 2), .ref (o 6), .ref (o 11), .int (nI (sT x)), .int (nI ev), .int (sd x)])) ((o 1), .inl (cF, n, .inr (.inr (.inl (sc x))))) wD (recW cI cF o (sL x).length g1 g2 g3 g4) wS) (fun w1 h => h.ad2 hWR) (fun _ => List.Perm.refl _) (fun w1 H locs hpo hP hD hS => ?_)
  have hWR2 := hpo
  replace hP := lz_permP (sk_pR ((o 0), .inr (3, [.ref (o 1), .ref (o 2), .ref (o 6), .ref (o 11), .int (nI (sT x)), .int (nI ev), .int (sd x)])) ((o 1), .inl (cF, n, .inr (.inr (.inl (sc x))))) wD w1 wS).symm hP
  replace hD := lz_permD (sk_pR ((o 0), .inr (3, [.ref (o 1), .ref (o 2), .ref (o 6), .ref (o 11), .int (nI (sT x)), .int (nI ev), .int (sd x)])) ((o 1), .inl (cF, n, .inr (.inr (.inl (sc x))))) wD w1 wS).symm hD
  have hP : va_P D vwCl (((o 0), .inr (3, [.ref (o 1), .ref (o 2), .ref (o 6), .ref (o 11), .int (nI (sT x)), .int (nI ev), .int (sd x)])) :: ((o 1), .inl (cF, n, .inr (.inr (.inl (sc x))))) :: (wD ++ (w1 ++ wS))) H := hP
  have hD : va_D A (((o 0), .inr (3, [.ref (o 1), .ref (o 2), .ref (o 6), .ref (o 11), .int (nI (sT x)), .int (nI ev), .int (sd x)])) :: ((o 1), .inl (cF, n, .inr (.inr (.inl (sc x))))) :: (wD ++ (w1 ++ wS))) := hD
  have hen : rIn n (rins (sL x) (sT x, u, q0, v)) := rIn_rins hL9 (by omega) ⟨by show sT x < 2 ^ 30; omega, by show u < n; omega, by show q0 ≤ 2; omega, inF_F cN_F cP_F hp2.2⟩
  obtain ⟨g5, g6, g7, g8, hrec2, rfl⟩ := id hWR2
  refine lv_aload_n hx hb dX3_input_29 rfl (lv_at hl 0 rfl) ?_
  refine va_get (D := D) (ci := 3) (v := .ref (o 6)) (C := RX3) (T := TX3) (N := 7) hx hb hts hiX3 hown hK hP 0 rfl rfl 2 (by decide) (hts (.fieldLink RX3 23 "StateKeeper" "inputRecord" "LStateKeeper$InputRecord;") (List.mem_of_getElem? (i := 1) rfl)) (fun _ h9 => h9) rfl dX3_input_30 ?_
  refine lv_aload_n hx hb dX3_input_33 rfl (lv_at hl 0 rfl) ?_
  refine va_get (D := D) (ci := 3) (v := .int (nI (sT x))) (C := RX3) (T := TX3) (N := 7) hx hb hts hiX3 hown hK hP 0 rfl rfl 4 (by decide) (hts (.fieldLink RX3 57 "StateKeeper" "present" "I") (List.mem_of_getElem? (i := 2) rfl)) (fun _ h9 => h9) rfl dX3_input_34 ?_
  have hPc : va_P D vwCl (recW cI cF o (rins (sL x) (sT x, u, q0, v)).length g5 g6 g7 g8) _ := lz_cutP (sk_pR ((o 0), .inr (3, [.ref (o 1), .ref (o 2), .ref (o 6), .ref (o 11), .int (nI (sT x)), .int (nI ev), .int (sd x)])) ((o 1), .inl (cF, n, .inr (.inr (.inl (sc x))))) wD (recW cI cF o (rins (sL x) (sT x, u, q0, v)).length g5 g6 g7 g8) wS) hP
  have hDc : va_D A (recW cI cF o (rins (sL x) (sT x, u, q0, v)).length g5 g6 g7 g8) := lz_cutD (sk_pR ((o 0), .inr (3, [.ref (o 1), .ref (o 2), .ref (o 6), .ref (o 11), .int (nI (sT x)), .int (nI ev), .int (sd x)])) ((o 1), .inl (cF, n, .inr (.inr (.inl (sc x))))) wD (recW cI cF o (rins (sL x) (sT x, u, q0, v)).length g5 g6 g7 g8) wS) hD
  refine vp_callSi (lz_runVN (C := RX1) (As := [.int (nI (sT x))]) (rest := []) hC hS hl (c_X1_sizeOf hrec2 (rins_srt hs _) hen) ⟨va_cnB 1 hts gX3_input_X1_sizeOf_n82 rfl rfl rfl (hnm (RX3, 82, yX1_sizeOf) (by decide)) (hts (.initialized RX1) (List.mem_of_getElem? (i := 25) rfl)) (by decide +kernel) ⟨Nat.le_of_ble_eq_true rfl, Nat.le_of_ble_eq_true rfl⟩, (hts (.instanceMethod yX1_sizeOf) (List.mem_of_getElem? (i := 45) rfl)), (hts (.selects RX1 yX1_sizeOf yX1_sizeOf) (List.mem_of_getElem? (i := 46) rfl))⟩ hPc hDc (va_recv hK hPc (ci := 1) (q0 := 0) rfl rfl) rfl rfl (Nat.le_of_ble_eq_true rfl) dX3_input_37 ⟨Nat.le_of_ble_eq_true rfl, Nat.le_of_ble_eq_true rfl⟩).run (fun r_1 er_1 => ?_)
  subst er_1
  refine lz_i (y := nI (cq (rins (sL x) (sT x, u, q0, v)) (sT x : Int))) (by rw [nI_toInt (by omega)]) ?_
  refine vx_ret (W.widen (k := 8) (n := 48) (Nat.le_of_ble_eq_true rfl) (Nat.le_of_ble_eq_true rfl) ?_)
  exact W.iret hx hb hr (fun t9 ht9 _ => ⟨⟨_, (((o 0), .inr (3, [.ref (o 1), .ref (o 2), .ref (o 6), .ref (o 11), .int (nI (sT x)), .int (nI ev), .int (sd x)])) :: ((o 1), .inl (cF, n, .inr (.inr (.inl (sc x))))) :: (wD ++ ((recW cI cF o (rins (sL x) (sT x, u, q0, v)).length g5 g6 g7 g8) ++ wS))), rfl, ⟨hp1, hp2, hp3, by rw [tn_nI hu8, tn_nI hq8], wD, (recW cI cF o (rins (sL x) (sT x, u, q0, v)).length g5 g6 g7 g8), wS, hWD, by rw [tn_nI hu8, tn_nI hq8]; exact hWR2, hWS, rfl⟩, by show va_P D vwCl _ t9.heap; rw [ht9]; exact hP⟩, hS.F ht9⟩) hS.2.2 dX3_input_40

theorem ev_in {n m : Nat} {z b : Int32} (h1 : kn n z) (h2 : 0 ≤ z.toInt + ((m : Int) - 1) * b.toInt ∧ z.toInt + ((m : Int) - 1) * b.toInt < (n : Int)) {i : Nat} (hi : i < m) : 0 ≤ z.toInt + (i : Int) * b.toInt ∧ z.toInt + (i : Int) * b.toInt < (n : Int) := by
  have h3 : (0 : Int) ≤ (i : Int) ∧ (i : Int) ≤ (m : Int) - 1 := by omega
  rcases Int.le_total 0 b.toInt with hb | hb
  · have a1 := Int.mul_le_mul_of_nonneg_right h3.2 hb
    have a2 := Int.mul_nonneg h3.1 hb
    have := h1.1
    omega
  · have a1 := Int.mul_le_mul_of_nonpos_right h3.2 hb
    have a2 : (i : Int) * b.toInt ≤ 0 := Int.mul_nonpos_of_nonneg_of_nonpos h3.1 hb
    have := h1.2
    omega
theorem ev_cell {z b : Int32} {n i : Nat} (h : 0 ≤ z.toInt + (i : Int) * b.toInt ∧ z.toInt + (i : Int) * b.toInt < (n : Int)) (hn : n ≤ 256) (hi : i < 256) : z + nI i * b = nI (z.toInt + (i : Int) * b.toInt).toNat := by
  apply Int32.toInt_inj.mp
  rw [nI_toInt (by omega), Int32.toInt_add, Int32.toInt_mul, nI_toInt (by omega)]
  rw [Int.toNat_of_nonneg h.1, Int.add_bmod_bmod]
  exact Int.bmod_eq_of_le (by omega) (by omega)
set_option maxRecDepth 100000 in
set_option maxHeartbeats 4000000 in
/-- inputs(from, by, count, way, v) -/
theorem c_X3_inputs {z b c9 q : Int32} {v : UInt32} (hw : WC cI cF cQ o n ev R x w) (hx0 : Ok n ev R x) (hs : srt (sL x)) : vx_Met l yX3_inputs wsX3_inputs (rmk 9 8 48) (pcW l D cI cF cQ aT [.ref (o 0), .int z, .int b, .int c9, .int q, .float v] w sz) (va_Qi (fun (r : Int32) (w1 : va_W) => (kn n z ∧ ((1 ≤ c9.toInt ∧ c9.toInt ≤ 256) → (0 ≤ z.toInt + (c9.toInt - 1) * b.toInt ∧ z.toInt + (c9.toInt - 1) * b.toInt < (n : Int)))) ∧ ((1 ≤ c9.toInt ∧ c9.toInt ≤ 256) ∧ okW q v) ∧ (c9.toInt + ((sL x).length : Int) ≤ 512) ∧ r = nI (cq (insN rins (inN (sT x) z b q v) (tn c9) (sL x)) (sT x : Int)) ∧ WC cI cF cQ o n ev R (stL x (insN rins (inN (sT x) z b q v) (tn c9) (sL x))) w1) (fun w1 t => va_P D vwCl w1 t.heap) (va_A w sz)) (xW D w (xc eI eA eS (kn n z ∧ ((1 ≤ c9.toInt ∧ c9.toInt ≤ 256) → (0 ≤ z.toInt + (c9.toInt - 1) * b.toInt ∧ z.toInt + (c9.toInt - 1) * b.toInt < (n : Int)))) ((1 ≤ c9.toInt ∧ c9.toInt ≤ 256) ∧ okW q v) (c9.toInt + ((sL x).length : Int) ≤ 512)) (va_A w sz)) 8 48 (va_A w sz) := by
  obtain ⟨wD, wR, wS, hWD, hWR, hWS, rfl⟩ := id hw
  refine lz_ofX (Qf := fun A => va_Qi (fun (r : Int32) (w1 : va_W) => (kn n z ∧ ((1 ≤ c9.toInt ∧ c9.toInt ≤ 256) → (0 ≤ z.toInt + (c9.toInt - 1) * b.toInt ∧ z.toInt + (c9.toInt - 1) * b.toInt < (n : Int)))) ∧ ((1 ≤ c9.toInt ∧ c9.toInt ≤ 256) ∧ okW q v) ∧ (c9.toInt + ((sL x).length : Int) ≤ 512) ∧ r = nI (cq (insN rins (inN (sT x) z b q v) (tn c9) (sL x)) (sT x : Int)) ∧ WC cI cF cQ o n ev R (stL x (insN rins (inN (sT x) z b q v) (tn c9) (sL x))) w1) (fun w1 t => va_P D vwCl w1 t.heap) A) (XF := fun A => xW D (skW cF o n ev x wD wR wS) (xc eI eA eS (kn n z ∧ ((1 ≤ c9.toInt ∧ c9.toInt ≤ 256) → (0 ≤ z.toInt + (c9.toInt - 1) * b.toInt ∧ z.toInt + (c9.toInt - 1) * b.toInt < (n : Int)))) ((1 ≤ c9.toInt ∧ c9.toInt ≤ 256) ∧ okW q v) (c9.toInt + ((sL x).length : Int) ≤ 512)) A) (cc := cX3_inputs) (maxL := 7) (ret := (some .int)) (by decide) rfl (Nat.le_of_ble_eq_true rfl) ?_
  intro p e s m below meth c A hAe hsz htab hx hb hr hlk hC hP hD hS ls hl
  clear hAe
  have hts := hC.1.2.2.2.2
  have hown : s.vm.findClass RX3 = some m.cls := hC.1.2.2.2.1
  have hml := hC.1.2.2.1
  have hA := hC.2.1
  have hK := hC.2.2.2.1
  have hnm := hC.2.2.2.2.1
  have hnf := hC.2.2.2.2.2.1
  have hiX3 : ∀ w ∈ u_ws RX3 TX3 7, w ∈ wsX3_inputs := fun _ h => List.mem_cons_of_mem _ (List.mem_append_left _ (List.mem_append_left _ (List.mem_append_left _ (List.mem_append_left _ (List.mem_append_right _ h)))))
  have hiX1 : ∀ w ∈ u_ws RX1 TX1 5, w ∈ wsX3_inputs := fun _ h => List.mem_cons_of_mem _ (List.mem_append_left _ (List.mem_append_left _ (List.mem_append_left _ (List.mem_append_right _ h))))
  have hl : lv_has ls 7 [(0, .ref (o 0)), (1, .int z), (2, .int b), (3, .int c9), (4, .int q), (5, .float v)] := hl
  have hn9 := hx0.1.2
  have hev9 := hx0.2.1
  have hR9 : dIn n R := hx0.2.2.1
  have hcf : cfin (sc x) := hx0.2.2.2.1
  have hT9 : sT x < 2 ^ 29 := hx0.2.2.2.2.1
  have hL9 : rIn n (sL x) := hx0.2.2.2.2.2.1
  have hS9 : sGood (sS x) := hx0.2.2.2.2.2.2.1
  have hL8 := hL9.1
  have hS8 := hS9.2.1
  have hR8 := hR9.1
  refine lv_aload_n hx hb dX3_inputs_0 rfl (lv_at hl 0 rfl) ?_
  refine lv_iload_n hx hb dX3_inputs_1 rfl (lv_at hl 1 rfl) ?_
  refine lx_cv (lx_runV (C := RX3) (As := [.int z]) (rest := []) hC hS hl (c_X3_needCell hw hn9) (cwV 1 hts gX3_inputs_X3_needCell rfl rfl rfl (by decide +kernel) ⟨Nat.le_of_ble_eq_true rfl, Nat.le_of_ble_eq_true rfl⟩) hP hD (va_recv hK hP (ci := 3) (q0 := 0) rfl rfl) rfl rfl (Nat.le_of_ble_eq_true rfl) dX3_inputs_2 ⟨Nat.le_of_ble_eq_true rfl, Nat.le_of_ble_eq_true rfl⟩) hD hS hA (fun E9 ce9 q9 H locs hE9 hP hS h91 h92 h93 => lx_out htab hlk h91 h92 h93 (Or.inl ⟨hE9.1, fun q => hE9.2 q.1⟩) hP hS (Nat.le_of_ble_eq_true rfl) (Nat.le_of_ble_eq_true rfl)) (fun H locs hz9 hP hS => ?_)
  refine lv_iload_n hx hb dX3_inputs_5 rfl (lv_at hl 3 rfl) ?_
  refine lv_iconst (v := nI 1) hx hb dX3_inputs_6 (by decide) ?_
  refine lv_icmp_lt (tgt := 17) hx hb dX3_inputs_7 (by decide) (fun c_1 => ?_) (fun c_1 => ?_)
  · exact lx_thA (text := "count is not 1 .. 256") (is := 86) (by decide) hC hx hb htab hlk hl hP hS (hts (.classLink RX3 41 "java/lang/IllegalArgumentException") (List.mem_of_getElem? (i := 1) rfl)) (hts (.initialized "java/lang/IllegalArgumentException") (List.mem_of_getElem? (i := 2) rfl)) (fun _ h9 => List.mem_cons_of_mem _ (List.mem_append_left _ (List.mem_append_left _ (List.mem_append_right _ h9)))) dX3_inputs_17 dX3_inputs_20 dX3_inputs_21 dX3_inputs_23 dX3_inputs_26 (Nat.le_of_ble_eq_true rfl) (Nat.le_of_ble_eq_true rfl) (Nat.le_of_ble_eq_true rfl) (Nat.le_of_ble_eq_true rfl) (Or.inr (Or.inl ⟨rfl, ⟨hz9, fun q => absurd ((iz_lt_r (a := 1) (by omega)).mp c_1) (by omega)⟩, fun q => absurd ((iz_lt_r (a := 1) (by omega)).mp c_1) (by omega)⟩)) (Nat.le_of_ble_eq_true rfl) (Nat.le_of_ble_eq_true rfl)
  · have hc1 : 1 ≤ c9.toInt := by have := mt (iz_lt_r (a := 1) (by omega)).mpr c_1; omega
    refine lv_iload_n hx hb dX3_inputs_10 rfl (lv_at hl 3 rfl) ?_
    refine lv_sipush (v := nI 256) hx hb dX3_inputs_11 (by decide) ?_
    refine lv_icmp_le (tgt := 27) hx hb dX3_inputs_14 (by decide) (fun c_2 => ?_) (fun c_2 => ?_)
    · have hc2 : c9.toInt ≤ 256 := (iz_le_r (a := 256) (by omega)).mp c_2
      obtain ⟨m9, hm8, rfl, hm⟩ := iz_nat (z := c9) (by omega)
      have hm1 : 1 ≤ m9 := by omega
      have hm2 : m9 ≤ 256 := by omega
      have hl : lv_has ls 7 [(0, .ref (o 0)), (1, .int z), (2, .int b), (3, .int (nI m9)), (4, .int q), (5, .float v)] := hl
      refine lv_aload_n hx hb dX3_inputs_27 rfl (lv_at hl 0 rfl) ?_
      refine lv_iload_n hx hb dX3_inputs_28 rfl (lv_at hl 1 rfl) ?_
      refine lv_iload_n hx hb dX3_inputs_29 rfl (lv_at hl 2 rfl) ?_
      refine lv_iload_n hx hb dX3_inputs_30 rfl (lv_at hl 3 rfl) ?_
      refine lx_cv (lx_runV (C := RX3) (As := [.int z, .int b, .int (nI m9)]) (rest := []) hC hS hl (c_X3_needLastCell hm1 hm2 hw hn9) (cwV 3 hts gX3_inputs_X3_needLastCell rfl rfl rfl (by decide +kernel) ⟨Nat.le_of_ble_eq_true rfl, Nat.le_of_ble_eq_true rfl⟩) hP hD (va_recv hK hP (ci := 3) (q0 := 0) rfl rfl) rfl rfl (Nat.le_of_ble_eq_true rfl) dX3_inputs_31 ⟨Nat.le_of_ble_eq_true rfl, Nat.le_of_ble_eq_true rfl⟩) hD hS hA (fun E9 ce9 q9 H locs hE9 hP hS h91 h92 h93 => lx_out htab hlk h91 h92 h93 (Or.inl ⟨hE9.1, fun q => hE9.2 (by have := q.2 ⟨hc1, hc2⟩; rw [hm] at this; exact this)⟩) hP hS (Nat.le_of_ble_eq_true rfl) (Nat.le_of_ble_eq_true rfl)) (fun H locs hl9 hP hS => ?_)
      have hp1 : kn n z ∧ ((1 ≤ (nI m9).toInt ∧ (nI m9).toInt ≤ 256) → (0 ≤ z.toInt + ((nI m9).toInt - 1) * b.toInt ∧ z.toInt + ((nI m9).toInt - 1) * b.toInt < (n : Int))) := ⟨hz9, fun _ => by rw [hm]; exact hl9⟩
      refine lv_iload hx hb dX3_inputs_34 (lv_at hl 4 rfl) ?_
      refine lv_fload hx hb dX3_inputs_36 (lv_at hl 5 rfl) ?_
      refine lx_cv (lx_runS (As := [.int q, .float v]) (rest := []) hC hS hl c_X3_needWay (va_cwS 2 hts gX3_inputs_X3_needWayAndNumber rfl rfl rfl (by decide +kernel) ⟨Nat.le_of_ble_eq_true rfl, Nat.le_of_ble_eq_true rfl⟩) hP hD rfl rfl (Nat.le_of_ble_eq_true rfl) dX3_inputs_38 ⟨Nat.le_of_ble_eq_true rfl, Nat.le_of_ble_eq_true rfl⟩) hD hS hA (fun E9 ce9 q9 H locs hE9 hP hS h91 h92 h93 => lx_out htab hlk h91 h92 h93 (Or.inr (Or.inl ⟨hE9.1, hp1, fun q => hE9.2 q.2⟩)) hP hS (Nat.le_of_ble_eq_true rfl) (Nat.le_of_ble_eq_true rfl)) (fun H locs hp2 hP hS => ?_)
      refine lv_aload_n hx hb dX3_inputs_41 rfl (lv_at hl 0 rfl) ?_
      refine lv_iload_n hx hb dX3_inputs_42 rfl (lv_at hl 3 rfl) ?_
      refine lx_cv (lx_runV (C := RX3) (As := [.int (nI m9)]) (rest := []) hC hS hl (c_X3_needRoom (k := m9) hm2 hL8 hw) (cwV 1 hts gX3_inputs_X3_needRoom rfl rfl rfl (by decide +kernel) ⟨Nat.le_of_ble_eq_true rfl, Nat.le_of_ble_eq_true rfl⟩) hP hD (va_recv hK hP (ci := 3) (q0 := 0) rfl rfl) rfl rfl (Nat.le_of_ble_eq_true rfl) dX3_inputs_43 ⟨Nat.le_of_ble_eq_true rfl, Nat.le_of_ble_eq_true rfl⟩) hD hS hA (fun E9 ce9 q9 H locs hE9 hP hS h91 h92 h93 => lx_out htab hlk h91 h92 h93 (Or.inr (Or.inr ⟨hE9.1, hp1, ⟨⟨hc1, hc2⟩, hp2⟩, fun q => hE9.2 (by rw [hm] at q; omega)⟩)) hP hS (Nat.le_of_ble_eq_true rfl) (Nat.le_of_ble_eq_true rfl)) (fun H locs hp3 hP hS => ?_)
      obtain ⟨q0, hq8, rfl, hq⟩ := iz_nat hp2.1.1
      have hl : lv_has ls 7 [(0, .ref (o 0)), (1, .int z), (2, .int b), (3, .int (nI m9)), (4, .int (nI q0)), (5, .float v)] := hl
      refine lv_iconst (v := nI 0) hx hb dX3_inputs_46 (by decide) ?_
      refine lv_istore (lv' := [(6, .int (nI 0)), (0, .ref (o 0)), (1, .int z), (2, .int b), (3, .int (nI m9)), (4, .int (nI q0)), (5, .float v)]) hx hb dX3_inputs_47 hl (by decide) rfl (fun ls hl => ?_)
      have hcell : ∀ i, i < m9 → 0 ≤ z.toInt + (i : Int) * b.toInt ∧ z.toInt + (i : Int) * b.toInt < (n : Int) := fun i hi => ev_in hz9 hl9 hi
      have loop : ∀ (r i : Nat), r + i = m9 → ∀ (wR9 : va_W), WR cI cF o (insN rins (inN (sT x) z b (nI q0) v) i (sL x)) wR9 → rIn n (insN rins (inN (sT x) z b (nI q0) v) i (sL x)) → srt (insN rins (inN (sT x) z b (nI q0) v) i (sL x)) → (insN rins (inN (sT x) z b (nI q0) v) i (sL x)).length = i + (sL x).length → ∀ (H : Heap) (locs : List Loc) (ls : Array Slot), va_P D vwCl (((o 0), .inr (3, [.ref (o 1), .ref (o 2), .ref (o 6), .ref (o 11), .int (nI (sT x)), .int (nI ev), .int (sd x)])) :: ((o 1), .inl (cF, n, .inr (.inr (.inl (sc x))))) :: (wD ++ (wR9 ++ wS))) H → va_D A (((o 0), .inr (3, [.ref (o 1), .ref (o 2), .ref (o 6), .ref (o 11), .int (nI (sT x)), .int (nI ev), .int (sd x)])) :: ((o 1), .inl (cF, n, .inr (.inr (.inl (sc x))))) :: (wD ++ (wR9 ++ wS))) → va_S A s.heap H locs → lv_has ls 7 [(6, .int (nI i)), (0, .ref (o 0)), (1, .int z), (2, .int b), (3, .int (nI m9)), (4, .int (nI q0)), (5, .float v)] → W p l e (rmk 9 8 48) s m [.ref (o 0), .int z, .int b, .int (nI m9), .int (nI q0), .float v].toArray below meth c H locs 4 24 (vx_MQ below (va_Qi (fun (r : Int32) (w1 : va_W) => (kn n z ∧ ((1 ≤ (nI m9).toInt ∧ (nI m9).toInt ≤ 256) → (0 ≤ z.toInt + ((nI m9).toInt - 1) * b.toInt ∧ z.toInt + ((nI m9).toInt - 1) * b.toInt < (n : Int)))) ∧ ((1 ≤ (nI m9).toInt ∧ (nI m9).toInt ≤ 256) ∧ okW (nI q0) v) ∧ ((nI m9).toInt + ((sL x).length : Int) ≤ 512) ∧ r = nI (cq (insN rins (inN (sT x) z b (nI q0) v) (tn (nI m9)) (sL x)) (sT x : Int)) ∧ WC cI cF cQ o n ev R (stL x (insN rins (inN (sT x) z b (nI q0) v) (tn (nI m9)) (sL x))) w1) (fun w1 t => va_P D vwCl w1 t.heap) A) (xW D (skW cF o n ev x wD wR wS) (xc eI eA eS (kn n z ∧ ((1 ≤ (nI m9).toInt ∧ (nI m9).toInt ≤ 256) → (0 ≤ z.toInt + ((nI m9).toInt - 1) * b.toInt ∧ z.toInt + ((nI m9).toInt - 1) * b.toInt < (n : Int)))) ((1 ≤ (nI m9).toInt ∧ (nI m9).toInt ≤ 256) ∧ okW (nI q0) v) ((nI m9).toInt + ((sL x).length : Int) ≤ 512)) A) [.ref (o 0), .int z, .int b, .int (nI m9), .int (nI q0), .float v].toArray s 8 48 A) (F0 m 49 ls []) := by
        intro r
        induction r with
        | zero =>
          intro i h1 wR9 hWR hI hs2 hlen H locs ls hP hD hS hl
          have hl : lv_has ls 7 [(6, .int (nI i)), (0, .ref (o 0)), (1, .int z), (2, .int b), (3, .int (nI m9)), (4, .int (nI q0)), (5, .float v)] := hl
          refine lv_iload hx hb dX3_inputs_49 (lv_at hl 0 rfl) ?_
          refine lv_iload_n hx hb dX3_inputs_51 rfl (lv_at hl 4 rfl) ?_
          refine lv_icmp_ge (tgt := 82) hx hb dX3_inputs_52 (by decide) (fun c_3 => ?_) (fun c_3 => absurd (nI_le (by omega) (by omega)) c_3)
          have hi2 : i = m9 := by omega
          subst hi2
          have hl : lv_has ls 7 [(6, .int (nI i)), (0, .ref (o 0)), (1, .int z), (2, .int b), (3, .int (nI i)), (4, .int (nI q0)), (5, .float v)] := hl
          obtain ⟨g1, g2, g3, g4, hrec, rfl⟩ := id hWR
          refine lv_aload_n hx hb dX3_inputs_82 rfl (lv_at hl 1 rfl) ?_
          refine va_get (D := D) (ci := 3) (v := .ref (o 6)) (C := RX3) (T := TX3) (N := 7) hx hb hts hiX3 hown hK hP 0 rfl rfl 2 (by decide) (hts (.fieldLink RX3 23 "StateKeeper" "inputRecord" "LStateKeeper$InputRecord;") (List.mem_of_getElem? (i := 3) rfl)) (fun _ h9 => h9) rfl dX3_inputs_83 ?_
          refine lv_aload_n hx hb dX3_inputs_86 rfl (lv_at hl 1 rfl) ?_
          refine va_get (D := D) (ci := 3) (v := .int (nI (sT x))) (C := RX3) (T := TX3) (N := 7) hx hb hts hiX3 hown hK hP 0 rfl rfl 4 (by decide) (hts (.fieldLink RX3 57 "StateKeeper" "present" "I") (List.mem_of_getElem? (i := 4) rfl)) (fun _ h9 => h9) rfl dX3_inputs_87 ?_
          have hPc : va_P D vwCl (recW cI cF o (insN rins (inN (sT x) z b (nI q0) v) i (sL x)).length g1 g2 g3 g4) _ := lz_cutP (sk_pR ((o 0), .inr (3, [.ref (o 1), .ref (o 2), .ref (o 6), .ref (o 11), .int (nI (sT x)), .int (nI ev), .int (sd x)])) ((o 1), .inl (cF, n, .inr (.inr (.inl (sc x))))) wD (recW cI cF o (insN rins (inN (sT x) z b (nI q0) v) i (sL x)).length g1 g2 g3 g4) wS) hP
          have hDc : va_D A (recW cI cF o (insN rins (inN (sT x) z b (nI q0) v) i (sL x)).length g1 g2 g3 g4) := lz_cutD (sk_pR ((o 0), .inr (3, [.ref (o 1), .ref (o 2), .ref (o 6), .ref (o 11), .int (nI (sT x)), .int (nI ev), .int (sd x)])) ((o 1), .inl (cF, n, .inr (.inr (.inl (sc x))))) wD (recW cI cF o (insN rins (inN (sT x) z b (nI q0) v) i (sL x)).length g1 g2 g3 g4) wS) hD
          refine vp_callSi (lz_runVN (C := RX1) (As := [.int (nI (sT x))]) (rest := []) hC hS hl (c_X1_sizeOf hrec hs2 hI) ⟨va_cnB 1 hts gX3_inputs_X1_sizeOf_n82 rfl rfl rfl (hnm (RX3, 82, yX1_sizeOf) (by decide)) (hts (.initialized RX1) (List.mem_of_getElem? (i := 29) rfl)) (by decide +kernel) ⟨Nat.le_of_ble_eq_true rfl, Nat.le_of_ble_eq_true rfl⟩, (hts (.instanceMethod yX1_sizeOf) (List.mem_of_getElem? (i := 49) rfl)), (hts (.selects RX1 yX1_sizeOf yX1_sizeOf) (List.mem_of_getElem? (i := 50) rfl))⟩ hPc hDc (va_recv hK hPc (ci := 1) (q0 := 0) rfl rfl) rfl rfl (Nat.le_of_ble_eq_true rfl) dX3_inputs_90 ⟨Nat.le_of_ble_eq_true rfl, Nat.le_of_ble_eq_true rfl⟩).run (fun r_4 er_4 => ?_)
          subst er_4
          refine lz_i (y := nI (cq (insN rins (inN (sT x) z b (nI q0) v) i (sL x)) (sT x : Int))) (by rw [nI_toInt (by omega)]) ?_
          refine vx_ret (W.widen (k := 8) (n := 48) (Nat.le_of_ble_eq_true rfl) (Nat.le_of_ble_eq_true rfl) ?_)
          exact W.iret hx hb hr (fun t9 ht9 _ => ⟨⟨_, (((o 0), .inr (3, [.ref (o 1), .ref (o 2), .ref (o 6), .ref (o 11), .int (nI (sT x)), .int (nI ev), .int (sd x)])) :: ((o 1), .inl (cF, n, .inr (.inr (.inl (sc x))))) :: (wD ++ ((recW cI cF o (insN rins (inN (sT x) z b (nI q0) v) i (sL x)).length g1 g2 g3 g4) ++ wS))), rfl, ⟨hp1, ⟨⟨hc1, hc2⟩, hp2⟩, by rw [hm]; omega, by rw [tn_nI hm8], wD, (recW cI cF o (insN rins (inN (sT x) z b (nI q0) v) i (sL x)).length g1 g2 g3 g4), wS, hWD, by rw [tn_nI hm8]; exact hWR, hWS, rfl⟩, by show va_P D vwCl _ t9.heap; rw [ht9]; exact hP⟩, hS.F ht9⟩) hS.2.2 dX3_inputs_93
        | succ r ih =>
          intro i h1 wR9 hWR hI hs2 hlen H locs ls hP hD hS hl
          have hl : lv_has ls 7 [(6, .int (nI i)), (0, .ref (o 0)), (1, .int z), (2, .int b), (3, .int (nI m9)), (4, .int (nI q0)), (5, .float v)] := hl
          have hc9 := hcell i (by omega)
          obtain ⟨g1, g2, g3, g4, hrec, rfl⟩ := id hWR
          refine lv_iload hx hb dX3_inputs_49 (lv_at hl 0 rfl) ?_
          refine lv_iload_n hx hb dX3_inputs_51 rfl (lv_at hl 4 rfl) ?_
          refine lv_icmp_ge (tgt := 82) hx hb dX3_inputs_52 (by decide) (fun c1 => absurd c1 (nI_ge (by omega) (by omega))) (fun c1 => ?_)
          refine lv_aload_n hx hb dX3_inputs_55 rfl (lv_at hl 1 rfl) ?_
          refine va_get (D := D) (ci := 3) (v := .ref (o 6)) (C := RX3) (T := TX3) (N := 7) hx hb hts hiX3 hown hK hP 0 rfl rfl 2 (by decide) (hts (.fieldLink RX3 23 "StateKeeper" "inputRecord" "LStateKeeper$InputRecord;") (List.mem_of_getElem? (i := 3) rfl)) (fun _ h9 => h9) rfl dX3_inputs_56 ?_
          refine lv_aload_n hx hb dX3_inputs_59 rfl (lv_at hl 1 rfl) ?_
          refine va_get (D := D) (ci := 3) (v := .int (nI (sT x))) (C := RX3) (T := TX3) (N := 7) hx hb hts hiX3 hown hK hP 0 rfl rfl 4 (by decide) (hts (.fieldLink RX3 57 "StateKeeper" "present" "I") (List.mem_of_getElem? (i := 4) rfl)) (fun _ h9 => h9) rfl dX3_inputs_60 ?_
          refine lv_iload_n hx hb dX3_inputs_63 rfl (lv_at hl 2 rfl) ?_
          refine lv_iload hx hb dX3_inputs_64 (lv_at hl 0 rfl) ?_
          refine lv_iload_n hx hb dX3_inputs_66 rfl (lv_at hl 3 rfl) ?_
          refine lv_imul hx hb dX3_inputs_67 ?_
          refine lv_iadd hx hb dX3_inputs_68 ?_
          refine lz_i (y := nI (z.toInt + (i : Int) * b.toInt).toNat) (ev_cell hc9 (by omega) (by omega)) ?_
          refine lv_iload hx hb dX3_inputs_69 (lv_at hl 5 rfl) ?_
          refine lv_fload hx hb dX3_inputs_71 (lv_at hl 6 rfl) ?_
          have hPc : va_P D vwCl (recW cI cF o (insN rins (inN (sT x) z b (nI q0) v) i (sL x)).length g1 g2 g3 g4) _ := lz_cutP (sk_pR ((o 0), .inr (3, [.ref (o 1), .ref (o 2), .ref (o 6), .ref (o 11), .int (nI (sT x)), .int (nI ev), .int (sd x)])) ((o 1), .inl (cF, n, .inr (.inr (.inl (sc x))))) wD (recW cI cF o (insN rins (inN (sT x) z b (nI q0) v) i (sL x)).length g1 g2 g3 g4) wS) hP
          have hDc : va_D A (recW cI cF o (insN rins (inN (sT x) z b (nI q0) v) i (sL x)).length g1 g2 g3 g4) := lz_cutD (sk_pR ((o 0), .inr (3, [.ref (o 1), .ref (o 2), .ref (o 6), .ref (o 11), .int (nI (sT x)), .int (nI ev), .int (sd x)])) ((o 1), .inl (cF, n, .inr (.inr (.inl (sc x))))) wD (recW cI cF o (insN rins (inN (sT x) z b (nI q0) v) i (sL x)).length g1 g2 g3 g4) wS) hD
          refine lz_cMv (w2 := fun w1 => w1 ++ (((o 0), .inr (3, [.ref (o 1), .ref (o 2), .ref (o 6), .ref (o 11), .int (nI (sT x)), .int (nI ev), .int (sd x)])) :: ((o 1), .inl (cF, n, .inr (.inr (.inl (sc x))))) :: (wD ++ wS))) (lz_runVN (C := RX1) (As := [.int (nI (sT x)), .int (nI (z.toInt + (i : Int) * b.toInt).toNat), .int (nI q0), .float v]) (rest := []) hC hS hl (c_X1_append (t := sT x) (u := (z.toInt + (i : Int) * b.toInt).toNat) (q := q0) (v := v) hrec hs2 hI (show sT x < 2 ^ 30 by omega) (by omega)) ⟨va_cnB 4 hts gX3_inputs_X1_append_n79 rfl rfl rfl (hnm (RX3, 79, yX1_append) (by decide)) (hts (.initialized RX1) (List.mem_of_getElem? (i := 29) rfl)) (by decide +kernel) ⟨Nat.le_of_ble_eq_true rfl, Nat.le_of_ble_eq_true rfl⟩, (hts (.instanceMethod yX1_append) (List.mem_of_getElem? (i := 28) rfl)), (hts (.selects RX1 yX1_append yX1_append) (List.mem_of_getElem? (i := 30) rfl))⟩ hPc hDc (va_recv hK hPc (ci := 1) (q0 := 0) rfl rfl) rfl rfl (Nat.le_of_ble_eq_true rfl) dX3_inputs_73 ⟨Nat.le_of_ble_eq_true rfl, Nat.le_of_ble_eq_true rfl⟩) hP hD hS hA (sk_pR ((o 0), .inr (3, [.ref (o 1), .ref (o 2), .ref (o 6), .ref (o 11), .int (nI (sT x)), .int (nI ev), .int (sd x)])) ((o 1), .inl (cF, n, .inr (.inr (.inl (sc x))))) wD (recW cI cF o (insN rins (inN (sT x) z b (nI q0) v) i (sL x)).length g1 g2 g3 g4) wS) (fun w1 h => h.ad2 hWR) (fun _ => List.Perm.refl _) (fun w1 H locs hpo hP hD hS => ?_)
          have hWR2 := hpo
          replace hP := lz_permP (sk_pR ((o 0), .inr (3, [.ref (o 1), .ref (o 2), .ref (o 6), .ref (o 11), .int (nI (sT x)), .int (nI ev), .int (sd x)])) ((o 1), .inl (cF, n, .inr (.inr (.inl (sc x))))) wD w1 wS).symm hP
          replace hD := lz_permD (sk_pR ((o 0), .inr (3, [.ref (o 1), .ref (o 2), .ref (o 6), .ref (o 11), .int (nI (sT x)), .int (nI ev), .int (sd x)])) ((o 1), .inl (cF, n, .inr (.inr (.inl (sc x))))) wD w1 wS).symm hD
          have hP : va_P D vwCl (((o 0), .inr (3, [.ref (o 1), .ref (o 2), .ref (o 6), .ref (o 11), .int (nI (sT x)), .int (nI ev), .int (sd x)])) :: ((o 1), .inl (cF, n, .inr (.inr (.inl (sc x))))) :: (wD ++ (w1 ++ wS))) H := hP
          have hD : va_D A (((o 0), .inr (3, [.ref (o 1), .ref (o 2), .ref (o 6), .ref (o 11), .int (nI (sT x)), .int (nI ev), .int (sd x)])) :: ((o 1), .inl (cF, n, .inr (.inr (.inl (sc x))))) :: (wD ++ (w1 ++ wS))) := hD
          have e9 : insN rins (inN (sT x) z b (nI q0) v) (i + 1) (sL x) = rins (insN rins (inN (sT x) z b (nI q0) v) i (sL x)) (sT x, (z.toInt + (i : Int) * b.toInt).toNat, q0, v) := by show rins _ (_, _, tn (nI q0), _) = _; rw [tn_nI hq8]
          refine lv_iinc (v := nI (i + 1)) (lv' := [(6, .int (nI (i + 1))), (0, .ref (o 0)), (1, .int z), (2, .int b), (3, .int (nI m9)), (4, .int (nI q0)), (5, .float v)]) hx hb dX3_inputs_76 hl (k := 0) rfl (nI_add _ 1) (by decide) rfl (fun ls hl => ?_)
          refine lv_goto (tgt := 49) hx hb dX3_inputs_79 (by decide) ?_
          refine ih (i + 1) (by omega) w1 (by rw [e9]; exact hWR2) (by rw [e9]; exact rIn_rins hI (by omega) ⟨by show sT x < 2 ^ 30; omega, by show (z.toInt + (i : Int) * b.toInt).toNat < n; omega, by show q0 ≤ 2; omega, inF_F cN_F cP_F hp2.2⟩) (by rw [e9]; exact rins_srt hs2 _) (by rw [e9, rins_len, hlen]; omega) H locs ls hP hD hS (lv_sub hl [0, 1, 2, 3, 4, 5, 6] rfl)
      exact loop m9 0 (by omega) wR hWR hL9 hs (by show (sL x).length = _; omega) _ _ ls hP hD hS hl
    · exact lx_thA (text := "count is not 1 .. 256") (is := 86) (by decide) hC hx hb htab hlk hl hP hS (hts (.classLink RX3 41 "java/lang/IllegalArgumentException") (List.mem_of_getElem? (i := 1) rfl)) (hts (.initialized "java/lang/IllegalArgumentException") (List.mem_of_getElem? (i := 2) rfl)) (fun _ h9 => List.mem_cons_of_mem _ (List.mem_append_left _ (List.mem_append_left _ (List.mem_append_right _ h9)))) dX3_inputs_17 dX3_inputs_20 dX3_inputs_21 dX3_inputs_23 dX3_inputs_26 (Nat.le_of_ble_eq_true rfl) (Nat.le_of_ble_eq_true rfl) (Nat.le_of_ble_eq_true rfl) (Nat.le_of_ble_eq_true rfl) (Or.inr (Or.inl ⟨rfl, ⟨hz9, fun q => absurd ((iz_le_r (a := 256) (by omega)).mpr q.2) c_2⟩, fun q => absurd ((iz_le_r (a := 256) (by omega)).mpr q.1.2) c_2⟩)) (Nat.le_of_ble_eq_true rfl) (Nat.le_of_ble_eq_true rfl)

set_option maxRecDepth 100000 in
set_option maxHeartbeats 4000000 in
/-- step(n) -/
theorem c_X3_step {z : Int32} (hT1 : sT x + 64 < 2 ^ 29) (hw : WC cI cF cQ o n ev R x w) (hx0 : Ok n ev R x) (hs : srt (sL x)) : vx_Met l yX3_step wsX3_step (rmk 9 8 48) (pcW l D cI cF cQ aT [.ref (o 0), .int z] w sz) (va_Qi (fun (r : Int32) (w1 : va_W) => (1 ≤ z.toInt ∧ z.toInt ≤ 64) ∧ r = nI (sT x + tn z) ∧ WC cI cF cQ o n ev R (stps R ev (tn z) x) w1) (fun w1 t => va_P D vwCl w1 t.heap) (va_A w sz)) (xW D w (xc eA eA eA (1 ≤ z.toInt ∧ z.toInt ≤ 64) True True) (va_A w sz)) 8 48 (va_A w sz) := by
  obtain ⟨wD, wR, wS, hWD, hWR, hWS, rfl⟩ := id hw
  refine lz_ofX (Qf := fun A => va_Qi (fun (r : Int32) (w1 : va_W) => (1 ≤ z.toInt ∧ z.toInt ≤ 64) ∧ r = nI (sT x + tn z) ∧ WC cI cF cQ o n ev R (stps R ev (tn z) x) w1) (fun w1 t => va_P D vwCl w1 t.heap) A) (XF := fun A => xW D (skW cF o n ev x wD wR wS) (xc eA eA eA (1 ≤ z.toInt ∧ z.toInt ≤ 64) True True) A) (cc := cX3_step) (maxL := 2) (ret := (some .int)) (by decide) rfl (Nat.le_of_ble_eq_true rfl) ?_
  intro p e s m below meth c A hAe hsz htab hx hb hr hlk hC hP hD hS ls hl
  clear hAe
  have hts := hC.1.2.2.2.2
  have hown : s.vm.findClass RX3 = some m.cls := hC.1.2.2.2.1
  have hml := hC.1.2.2.1
  have hA := hC.2.1
  have hK := hC.2.2.2.1
  have hnm := hC.2.2.2.2.1
  have hnf := hC.2.2.2.2.2.1
  have hiX3 : ∀ w ∈ u_ws RX3 TX3 7, w ∈ wsX3_step := fun _ h => List.mem_cons_of_mem _ (List.mem_append_left _ (List.mem_append_left _ (List.mem_append_left _ (List.mem_append_left _ (List.mem_append_right _ h)))))
  have hl : lv_has ls 2 [(0, .ref (o 0)), (1, .int z)] := hl
  have hn9 := hx0.1.2
  have hev9 := hx0.2.1
  have hR9 : dIn n R := hx0.2.2.1
  have hcf : cfin (sc x) := hx0.2.2.2.1
  have hT9 : sT x < 2 ^ 29 := hx0.2.2.2.2.1
  have hL9 : rIn n (sL x) := hx0.2.2.2.2.2.1
  have hS9 : sGood (sS x) := hx0.2.2.2.2.2.2.1
  have hL8 := hL9.1
  have hS8 := hS9.2.1
  have hR8 := hR9.1
  refine lv_iload_n hx hb dX3_step_0 rfl (lv_at hl 1 rfl) ?_
  refine lv_iconst (v := nI 1) hx hb dX3_step_1 (by decide) ?_
  refine lv_icmp_lt (tgt := 11) hx hb dX3_step_2 (by decide) (fun c_1 => ?_) (fun c_1 => ?_)
  · exact lx_thA (text := "n is not 1 .. 64") (is := 92) (by decide) hC hx hb htab hlk hl hP hS (hts (.classLink RX3 41 "java/lang/IllegalArgumentException") (List.mem_of_getElem? (i := 1) rfl)) (hts (.initialized "java/lang/IllegalArgumentException") (List.mem_of_getElem? (i := 2) rfl)) (fun _ h9 => List.mem_cons_of_mem _ (List.mem_append_right _ h9)) dX3_step_11 dX3_step_14 dX3_step_15 dX3_step_17 dX3_step_20 (Nat.le_of_ble_eq_true rfl) (Nat.le_of_ble_eq_true rfl) (Nat.le_of_ble_eq_true rfl) (Nat.le_of_ble_eq_true rfl) (Or.inl ⟨rfl, fun q => absurd ((iz_lt_r (a := 1) (by omega)).mp c_1) (by omega)⟩) (Nat.le_of_ble_eq_true rfl) (Nat.le_of_ble_eq_true rfl)
  · have h0 : 1 ≤ z.toInt := by have := mt (iz_lt_r (a := 1) (by omega)).mpr c_1; omega
    refine lv_iload_n hx hb dX3_step_5 rfl (lv_at hl 1 rfl) ?_
    refine lv_bipush (v := nI 64) hx hb dX3_step_6 (by decide) ?_
    refine lv_icmp_le (tgt := 21) hx hb dX3_step_8 (by decide) (fun c_2 => ?_) (fun c_2 => ?_)
    · have h1 : z.toInt ≤ 64 := (iz_le_r (a := 64) (by omega)).mp c_2
      obtain ⟨u, hu8, rfl, hu⟩ := iz_nat (z := z) (by omega)
      have hl : lv_has ls 2 [(0, .ref (o 0)), (1, .int (nI u))] := hl
      refine lv_aload_n hx hb dX3_step_21 rfl (lv_at hl 0 rfl) ?_
      refine lv_iload_n hx hb dX3_step_22 rfl (lv_at hl 1 rfl) ?_
      refine lz_cMv0 (lz_runV (C := RX3) (As := [.int (nI u)]) (rest := []) hC hS hl (c_X3_doSteps (k := u) (by omega) hw hx0 hs (by omega)) (cwV 1 hts gX3_step_X3_doSteps rfl rfl rfl (by decide +kernel) ⟨Nat.le_of_ble_eq_true rfl, Nat.le_of_ble_eq_true rfl⟩) hP hD (va_recv hK hP (ci := 3) (q0 := 0) rfl rfl) rfl rfl (Nat.le_of_ble_eq_true rfl) dX3_step_23 ⟨Nat.le_of_ble_eq_true rfl, Nat.le_of_ble_eq_true rfl⟩) hD hS hA (fun w1 h => h.ad2 hw) (fun w1 H locs hpo hP hD hS => ?_)
      obtain ⟨wD2, wR2, wS2, hWD2, hWR2, hWS2, rfl⟩ := hpo
      have hST : sT (stps R ev u x) = sT x + u := stps_T R ev u x
      have hP : va_P D vwCl (((o 0), .inr (3, [.ref (o 1), .ref (o 2), .ref (o 6), .ref (o 11), .int (nI (sT (stps R ev u x))), .int (nI ev), .int (sd (stps R ev u x))])) :: ((o 1), .inl (cF, n, .inr (.inr (.inl (sc (stps R ev u x)))))) :: (wD2 ++ (wR2 ++ wS2))) H := hP
      have hD : va_D A (((o 0), .inr (3, [.ref (o 1), .ref (o 2), .ref (o 6), .ref (o 11), .int (nI (sT (stps R ev u x))), .int (nI ev), .int (sd (stps R ev u x))])) :: ((o 1), .inl (cF, n, .inr (.inr (.inl (sc (stps R ev u x)))))) :: (wD2 ++ (wR2 ++ wS2))) := hD
      refine lv_aload_n hx hb dX3_step_26 rfl (lv_at hl 0 rfl) ?_
      refine va_get (D := D) (ci := 3) (v := .int (nI (sT (stps R ev u x)))) (C := RX3) (T := TX3) (N := 7) hx hb hts hiX3 hown hK hP 0 rfl rfl 4 (by decide) (hts (.fieldLink RX3 57 "StateKeeper" "present" "I") (List.mem_of_getElem? (i := 3) rfl)) (fun _ h9 => h9) rfl dX3_step_27 ?_
      refine lz_i (y := nI (sT x + u)) (by rw [hST]) ?_
      refine vx_ret (W.widen (k := 8) (n := 48) (Nat.le_of_ble_eq_true rfl) (Nat.le_of_ble_eq_true rfl) ?_)
      exact W.iret hx hb hr (fun t9 ht9 _ => ⟨⟨_, (((o 0), .inr (3, [.ref (o 1), .ref (o 2), .ref (o 6), .ref (o 11), .int (nI (sT (stps R ev u x))), .int (nI ev), .int (sd (stps R ev u x))])) :: ((o 1), .inl (cF, n, .inr (.inr (.inl (sc (stps R ev u x)))))) :: (wD2 ++ (wR2 ++ wS2))), rfl, ⟨⟨h0, h1⟩, by rw [tn_nI hu8], wD2, wR2, wS2, by exact hWD2, by rw [tn_nI hu8]; exact hWR2, by rw [tn_nI hu8]; exact hWS2, by rw [tn_nI hu8]⟩, by show va_P D vwCl _ t9.heap; rw [ht9]; exact hP⟩, hS.F ht9⟩) hS.2.2 dX3_step_30
    · exact lx_thA (text := "n is not 1 .. 64") (is := 92) (by decide) hC hx hb htab hlk hl hP hS (hts (.classLink RX3 41 "java/lang/IllegalArgumentException") (List.mem_of_getElem? (i := 1) rfl)) (hts (.initialized "java/lang/IllegalArgumentException") (List.mem_of_getElem? (i := 2) rfl)) (fun _ h9 => List.mem_cons_of_mem _ (List.mem_append_right _ h9)) dX3_step_11 dX3_step_14 dX3_step_15 dX3_step_17 dX3_step_20 (Nat.le_of_ble_eq_true rfl) (Nat.le_of_ble_eq_true rfl) (Nat.le_of_ble_eq_true rfl) (Nat.le_of_ble_eq_true rfl) (Or.inl ⟨rfl, fun q => c_2 ((iz_le_r (by omega)).mpr q.2)⟩) (Nat.le_of_ble_eq_true rfl) (Nat.le_of_ble_eq_true rfl)

set_option maxRecDepth 100000 in
set_option maxHeartbeats 4000000 in
/-- keep() -/
theorem c_X3_keep (hw : WC cI cF cQ o n ev R x w) (hx0 : Ok n ev R x) (hs : srt (sL x)) : Met l yX3_keep wsX3_keep (rmk 9 0 0) (pcW l D cI cF cQ aT [.ref (o 0)] w sz) (va_Qi (fun (r : Int32) (w1 : va_W) => r = nI (sS (kp x)).length ∧ WC cI cF cQ o n ev R (kp x) w1) (fun w1 t => va_P D vwCl w1 t.heap) (va_A w sz)) 0 0 (va_A w sz) := by
  obtain ⟨wD, wR, wS, hWD, hWR, hWS, rfl⟩ := id hw
  refine lz_ofM (Qf := fun A => va_Qi (fun (r : Int32) (w1 : va_W) => r = nI (sS (kp x)).length ∧ WC cI cF cQ o n ev R (kp x) w1) (fun w1 t => va_P D vwCl w1 t.heap) A) (cc := cX3_keep) (maxL := 1) (ret := (some .int)) (by decide) rfl (Nat.le_of_ble_eq_true rfl) ?_
  intro p e s m below meth c A hAe hsz hx hb hr hlk hin hC hP hD hS ls hl
  clear hAe
  have hts := hC.1.2.2.2.2
  have hown : s.vm.findClass RX3 = some m.cls := hC.1.2.2.2.1
  have hml := hC.1.2.2.1
  have hA := hC.2.1
  have hK := hC.2.2.2.1
  have hnm := hC.2.2.2.2.1
  have hnf := hC.2.2.2.2.2.1
  have hiX3 : ∀ w ∈ u_ws RX3 TX3 7, w ∈ wsX3_keep := fun _ h => List.mem_cons_of_mem _ (List.mem_append_left _ (List.mem_append_left _ (List.mem_append_right _ h)))
  have hiX2 : ∀ w ∈ u_ws RX2 TX2 4, w ∈ wsX3_keep := fun _ h => List.mem_cons_of_mem _ (List.mem_append_left _ (List.mem_append_right _ h))
  have hl : lv_has ls 1 [(0, .ref (o 0))] := hl
  have hn9 := hx0.1.2
  have hev9 := hx0.2.1
  have hR9 : dIn n R := hx0.2.2.1
  have hcf : cfin (sc x) := hx0.2.2.2.1
  have hT9 : sT x < 2 ^ 29 := hx0.2.2.2.2.1
  have hL9 : rIn n (sL x) := hx0.2.2.2.2.2.1
  have hS9 : sGood (sS x) := hx0.2.2.2.2.2.2.1
  have hL8 := hL9.1
  have hS8 := hS9.2.1
  have hR8 := hR9.1
  refine lv_aload_n hx hb dX3_keep_0 rfl (lv_at hl 0 rfl) ?_
  refine lz_cMv0 (lz_runV (C := RX3) (As := []) (rest := []) hC hS hl (c_X3_keepPresent hw hx0 hs) (cwV 0 hts gX3_keep_X3_keepPresent rfl rfl rfl (by decide +kernel) ⟨Nat.le_of_ble_eq_true rfl, Nat.le_of_ble_eq_true rfl⟩) hP hD (va_recv hK hP (ci := 3) (q0 := 0) rfl rfl) rfl rfl (Nat.le_of_ble_eq_true rfl) dX3_keep_1 ⟨Nat.le_of_ble_eq_true rfl, Nat.le_of_ble_eq_true rfl⟩) hD hS hA (fun w1 h => h.ad2 hw) (fun w1 H locs hpo hP hD hS => ?_)
  obtain ⟨wD2, wR2, wS2, hWD2, hWR2, hWS2, rfl⟩ := hpo
  have hP : va_P D vwCl (((o 0), .inr (3, [.ref (o 1), .ref (o 2), .ref (o 6), .ref (o 11), .int (nI (sT x)), .int (nI ev), .int (sd x)])) :: ((o 1), .inl (cF, n, .inr (.inr (.inl (sc x))))) :: (wD2 ++ (wR2 ++ wS2))) H := hP
  have hD : va_D A (((o 0), .inr (3, [.ref (o 1), .ref (o 2), .ref (o 6), .ref (o 11), .int (nI (sT x)), .int (nI ev), .int (sd x)])) :: ((o 1), .inl (cF, n, .inr (.inr (.inl (sc x))))) :: (wD2 ++ (wR2 ++ wS2))) := hD
  obtain ⟨a, f1, M, ha, hok, rfl⟩ := id hWS2
  refine lv_aload_n hx hb dX3_keep_4 rfl (lv_at hl 0 rfl) ?_
  refine va_get (D := D) (ci := 3) (v := .ref (o 11)) (C := RX3) (T := TX3) (N := 7) hx hb hts hiX3 hown hK hP 0 rfl rfl 3 (by decide) (hts (.fieldLink RX3 32 "StateKeeper" "snapshots" "LStateKeeper$Snapshots;") (List.mem_of_getElem? (i := 1) rfl)) (fun _ h9 => h9) rfl dX3_keep_5 ?_
  have hPc : va_P D vwCl (snapW cI cF cQ o n a (sS (kp x)).length f1 M) _ := lz_cutP (sk_pS ((o 0), .inr (3, [.ref (o 1), .ref (o 2), .ref (o 6), .ref (o 11), .int (nI (sT x)), .int (nI ev), .int (sd x)])) ((o 1), .inl (cF, n, .inr (.inr (.inl (sc x))))) wD2 wR2 (snapW cI cF cQ o n a (sS (kp x)).length f1 M)) hP
  have hDc : va_D A (snapW cI cF cQ o n a (sS (kp x)).length f1 M) := lz_cutD (sk_pS ((o 0), .inr (3, [.ref (o 1), .ref (o 2), .ref (o 6), .ref (o 11), .int (nI (sT x)), .int (nI ev), .int (sd x)])) ((o 1), .inl (cF, n, .inr (.inr (.inl (sc x))))) wD2 wR2 (snapW cI cF cQ o n a (sS (kp x)).length f1 M)) hD
  refine va_getN (D := D) (ci := 2) (v := .int (nI (sS (kp x)).length)) (C := RX2) (T := TX2) (N := 4) (host := "StateKeeper") hx hb hts hiX2 hown hK hPc 0 rfl rfl 3 (by decide) (va_Nw.use rfl (hnf (RX3, 100, RX2, "size", "I") (by decide))) (fun _ h9 => h9) rfl dX3_keep_8 ?_
  exact W.iret hx hb hr (fun t9 ht9 _ => ⟨⟨_, (((o 0), .inr (3, [.ref (o 1), .ref (o 2), .ref (o 6), .ref (o 11), .int (nI (sT x)), .int (nI ev), .int (sd x)])) :: ((o 1), .inl (cF, n, .inr (.inr (.inl (sc x))))) :: (wD2 ++ (wR2 ++ (snapW cI cF cQ o n a (sS (kp x)).length f1 M)))), rfl, ⟨rfl, wD2, wR2, (snapW cI cF cQ o n a (sS (kp x)).length f1 M), hWD2, hWR2, hWS2, rfl⟩, by show va_P D vwCl _ t9.heap; rw [ht9]; exact hP⟩, hS.F ht9⟩) hS.2.2 dX3_keep_11

set_option maxRecDepth 100000 in
set_option maxHeartbeats 4000000 in
/-- back(step) -/
theorem c_X3_back {z : Int32} (hw : WC cI cF cQ o n ev R x w) (hx0 : Ok n ev R x) (hs : srt (sL x)) : vx_Met l yX3_back wsX3_back (rmk 9 8 48) (pcW l D cI cF cQ aT [.ref (o 0), .int z] w sz) (va_Qi (fun (r : Int32) (w1 : va_W) => (plc (sS x) z.toInt ≠ none) ∧ r = bkv (sS x) z.toInt ∧ WC cI cF cQ o n ev R (gbz n x z.toInt) w1) (fun w1 t => va_P D vwCl w1 t.heap) (va_A w sz)) (xW D w (xc eI eI eI (plc (sS x) z.toInt ≠ none) True True) (va_A w sz)) 8 48 (va_A w sz) := by
  obtain ⟨wD, wR, wS, hWD, hWR, hWS, rfl⟩ := id hw
  refine lz_ofX (Qf := fun A => va_Qi (fun (r : Int32) (w1 : va_W) => (plc (sS x) z.toInt ≠ none) ∧ r = bkv (sS x) z.toInt ∧ WC cI cF cQ o n ev R (gbz n x z.toInt) w1) (fun w1 t => va_P D vwCl w1 t.heap) A) (XF := fun A => xW D (skW cF o n ev x wD wR wS) (xc eI eI eI (plc (sS x) z.toInt ≠ none) True True) A) (cc := cX3_back) (maxL := 2) (ret := (some .int)) (by decide) rfl (Nat.le_of_ble_eq_true rfl) ?_
  intro p e s m below meth c A hAe hsz htab hx hb hr hlk hC hP hD hS ls hl
  clear hAe
  have hts := hC.1.2.2.2.2
  have hown : s.vm.findClass RX3 = some m.cls := hC.1.2.2.2.1
  have hml := hC.1.2.2.1
  have hA := hC.2.1
  have hK := hC.2.2.2.1
  have hnm := hC.2.2.2.2.1
  have hnf := hC.2.2.2.2.2.1
  have hiX3 : ∀ w ∈ u_ws RX3 TX3 7, w ∈ wsX3_back := fun _ h => List.mem_cons_of_mem _ (List.mem_append_left _ (List.mem_append_left _ (List.mem_append_right _ h)))
  have hl : lv_has ls 2 [(0, .ref (o 0)), (1, .int z)] := hl
  have hn9 := hx0.1.2
  have hev9 := hx0.2.1
  have hR9 : dIn n R := hx0.2.2.1
  have hcf : cfin (sc x) := hx0.2.2.2.1
  have hT9 : sT x < 2 ^ 29 := hx0.2.2.2.2.1
  have hL9 : rIn n (sL x) := hx0.2.2.2.2.2.1
  have hS9 : sGood (sS x) := hx0.2.2.2.2.2.2.1
  have hL8 := hL9.1
  have hS8 := hS9.2.1
  have hR8 := hR9.1
  refine lv_aload_n hx hb dX3_back_0 rfl (lv_at hl 0 rfl) ?_
  refine lv_aload_n hx hb dX3_back_1 rfl (lv_at hl 0 rfl) ?_
  refine lv_iload_n hx hb dX3_back_2 rfl (lv_at hl 1 rfl) ?_
  refine lx_ci (lx_runV (C := RX3) (As := [.int z]) (rest := [.ref (o 0)]) hC hS hl (c_X3_neededSnapshot hS9 hw) (cwV 1 hts gX3_back_X3_neededSnapshot rfl rfl rfl (by decide +kernel) ⟨Nat.le_of_ble_eq_true rfl, Nat.le_of_ble_eq_true rfl⟩) hP hD (va_recv hK hP (ci := 3) (q0 := 0) rfl rfl) rfl rfl (Nat.le_of_ble_eq_true rfl) dX3_back_3 ⟨Nat.le_of_ble_eq_true rfl, Nat.le_of_ble_eq_true rfl⟩) hD hS hA (fun E9 ce9 q9 H locs hE9 hP hS h91 h92 h93 => lx_out htab hlk h91 h92 h93 (Or.inl ⟨hE9.1, fun q => q hE9.2⟩) hP hS (Nat.le_of_ble_eq_true rfl) (Nat.le_of_ble_eq_true rfl)) (fun r_1 H locs hpo hP hS => ?_)
  obtain ⟨j, hpl, rfl⟩ := hpo
  obtain ⟨ee, hj, hez, hsg⟩ := plc_get hpl
  refine lz_cMi0 (lz_runV (C := RX3) (As := [.int (nI j)]) (rest := []) hC hS hl (c_X3_goBackTo hj hw hx0 hs) (cwV 1 hts gX3_back_X3_goBackTo rfl rfl rfl (by decide +kernel) ⟨Nat.le_of_ble_eq_true rfl, Nat.le_of_ble_eq_true rfl⟩) hP hD (va_recv hK hP (ci := 3) (q0 := 0) rfl rfl) rfl rfl (Nat.le_of_ble_eq_true rfl) dX3_back_6 ⟨Nat.le_of_ble_eq_true rfl, Nat.le_of_ble_eq_true rfl⟩) hD hS hA (fun r w1 h => h.2.ad2 hw) (fun r_2 w1 H locs hpo hP hD hS => ?_)
  obtain ⟨rfl, hw8⟩ := hpo
  refine vx_ret (W.widen (k := 8) (n := 48) (Nat.le_of_ble_eq_true rfl) (Nat.le_of_ble_eq_true rfl) ?_)
  exact W.iret hx hb hr (fun t9 ht9 _ => ⟨⟨_, w1, rfl, ⟨by rw [hpl]; exact Option.some_ne_none j, by unfold bkv; rw [hpl]; rfl, by rw [gbz_get hpl hj]; exact hw8⟩, by show va_P D vwCl _ t9.heap; rw [ht9]; exact hP⟩, hS.F ht9⟩) hS.2.2 dX3_back_9

set_option maxRecDepth 100000 in
set_option maxHeartbeats 4000000 in
/-- forget(step) -/
theorem c_X3_forget {z : Int32} (hw : WC cI cF cQ o n ev R x w) (hx0 : Ok n ev R x) (hs : srt (sL x)) : vx_Met l yX3_forget wsX3_forget (rmk 9 8 48) (pcW l D cI cF cQ aT [.ref (o 0), .int z] w sz) (va_Qi (fun (r : Int32) (w1 : va_W) => ((sT x : Int) ≤ z.toInt) ∧ r = nI ((sL x).length - cb (sL x) z.toInt) ∧ WC cI cF cQ o n ev R (stL x ((sL x).filter (fun e => decide ((e.1 : Int) < z.toInt)))) w1) (fun w1 t => va_P D vwCl w1 t.heap) (va_A w sz)) (xW D w (xc eA eA eA ((sT x : Int) ≤ z.toInt) True True) (va_A w sz)) 8 48 (va_A w sz) := by
  obtain ⟨wD, wR, wS, hWD, hWR, hWS, rfl⟩ := id hw
  refine lz_ofX (Qf := fun A => va_Qi (fun (r : Int32) (w1 : va_W) => ((sT x : Int) ≤ z.toInt) ∧ r = nI ((sL x).length - cb (sL x) z.toInt) ∧ WC cI cF cQ o n ev R (stL x ((sL x).filter (fun e => decide ((e.1 : Int) < z.toInt)))) w1) (fun w1 t => va_P D vwCl w1 t.heap) A) (XF := fun A => xW D (skW cF o n ev x wD wR wS) (xc eA eA eA ((sT x : Int) ≤ z.toInt) True True) A) (cc := cX3_forget) (maxL := 2) (ret := (some .int)) (by decide) rfl (Nat.le_of_ble_eq_true rfl) ?_
  intro p e s m below meth c A hAe hsz htab hx hb hr hlk hC hP hD hS ls hl
  clear hAe
  have hts := hC.1.2.2.2.2
  have hown : s.vm.findClass RX3 = some m.cls := hC.1.2.2.2.1
  have hml := hC.1.2.2.1
  have hA := hC.2.1
  have hK := hC.2.2.2.1
  have hnm := hC.2.2.2.2.1
  have hnf := hC.2.2.2.2.2.1
  have hiX3 : ∀ w ∈ u_ws RX3 TX3 7, w ∈ wsX3_forget := fun _ h => List.mem_cons_of_mem _ (List.mem_append_left _ (List.mem_append_left _ (List.mem_append_right _ h)))
  have hiX1 : ∀ w ∈ u_ws RX1 TX1 5, w ∈ wsX3_forget := fun _ h => List.mem_cons_of_mem _ (List.mem_append_left _ (List.mem_append_right _ h))
  have hl : lv_has ls 2 [(0, .ref (o 0)), (1, .int z)] := hl
  have hn9 := hx0.1.2
  have hev9 := hx0.2.1
  have hR9 : dIn n R := hx0.2.2.1
  have hcf : cfin (sc x) := hx0.2.2.2.1
  have hT9 : sT x < 2 ^ 29 := hx0.2.2.2.2.1
  have hL9 : rIn n (sL x) := hx0.2.2.2.2.2.1
  have hS9 : sGood (sS x) := hx0.2.2.2.2.2.2.1
  have hL8 := hL9.1
  have hS8 := hS9.2.1
  have hR8 := hR9.1
  refine lv_iload_n hx hb dX3_forget_0 rfl (lv_at hl 1 rfl) ?_
  refine lv_aload_n hx hb dX3_forget_1 rfl (lv_at hl 0 rfl) ?_
  refine va_get (D := D) (ci := 3) (v := .int (nI (sT x))) (C := RX3) (T := TX3) (N := 7) hx hb hts hiX3 hown hK hP 0 rfl rfl 4 (by decide) (hts (.fieldLink RX3 57 "StateKeeper" "present" "I") (List.mem_of_getElem? (i := 3) rfl)) (fun _ h9 => h9) rfl dX3_forget_2 ?_
  refine lv_icmp_ge (tgt := 18) hx hb dX3_forget_5 (by decide) (fun c_1 => ?_) (fun c_1 => ?_)
  · obtain ⟨g1, g2, g3, g4, hrec, rfl⟩ := id hWR
    refine lv_aload_n hx hb dX3_forget_18 rfl (lv_at hl 0 rfl) ?_
    refine va_get (D := D) (ci := 3) (v := .ref (o 6)) (C := RX3) (T := TX3) (N := 7) hx hb hts hiX3 hown hK hP 0 rfl rfl 2 (by decide) (hts (.fieldLink RX3 23 "StateKeeper" "inputRecord" "LStateKeeper$InputRecord;") (List.mem_of_getElem? (i := 4) rfl)) (fun _ h9 => h9) rfl dX3_forget_19 ?_
    refine lv_iload_n hx hb dX3_forget_22 rfl (lv_at hl 1 rfl) ?_
    have hPc : va_P D vwCl (recW cI cF o (sL x).length g1 g2 g3 g4) _ := lz_cutP (sk_pR ((o 0), .inr (3, [.ref (o 1), .ref (o 2), .ref (o 6), .ref (o 11), .int (nI (sT x)), .int (nI ev), .int (sd x)])) ((o 1), .inl (cF, n, .inr (.inr (.inl (sc x))))) wD (recW cI cF o (sL x).length g1 g2 g3 g4) wS) hP
    have hDc : va_D A (recW cI cF o (sL x).length g1 g2 g3 g4) := lz_cutD (sk_pR ((o 0), .inr (3, [.ref (o 1), .ref (o 2), .ref (o 6), .ref (o 11), .int (nI (sT x)), .int (nI ev), .int (sd x)])) ((o 1), .inl (cF, n, .inr (.inr (.inl (sc x))))) wD (recW cI cF o (sL x).length g1 g2 g3 g4) wS) hD
    refine lz_cMi (w2 := fun w1 => w1 ++ (((o 0), .inr (3, [.ref (o 1), .ref (o 2), .ref (o 6), .ref (o 11), .int (nI (sT x)), .int (nI ev), .int (sd x)])) :: ((o 1), .inl (cF, n, .inr (.inr (.inl (sc x))))) :: (wD ++ wS))) (lz_runVN (C := RX1) (As := [.int z]) (rest := []) hC hS hl (c_X1_dropFrom hrec hs hL9) ⟨va_cnB 1 hts gX3_forget_X1_dropFrom_n109 rfl rfl rfl (hnm (RX3, 109, yX1_dropFrom) (by decide)) (hts (.initialized RX1) (List.mem_of_getElem? (i := 6) rfl)) (by decide +kernel) ⟨Nat.le_of_ble_eq_true rfl, Nat.le_of_ble_eq_true rfl⟩, (hts (.instanceMethod yX1_dropFrom) (List.mem_of_getElem? (i := 5) rfl)), (hts (.selects RX1 yX1_dropFrom yX1_dropFrom) (List.mem_of_getElem? (i := 7) rfl))⟩ hPc hDc (va_recv hK hPc (ci := 1) (q0 := 0) rfl rfl) rfl rfl (Nat.le_of_ble_eq_true rfl) dX3_forget_23 ⟨Nat.le_of_ble_eq_true rfl, Nat.le_of_ble_eq_true rfl⟩) hP hD hS hA (sk_pR ((o 0), .inr (3, [.ref (o 1), .ref (o 2), .ref (o 6), .ref (o 11), .int (nI (sT x)), .int (nI ev), .int (sd x)])) ((o 1), .inl (cF, n, .inr (.inr (.inl (sc x))))) wD (recW cI cF o (sL x).length g1 g2 g3 g4) wS) (fun r w1 h => h.2.ad2 hWR) (fun _ => List.Perm.refl _) (fun r_2 w1 H locs hpo hP hD hS => ?_)
    obtain ⟨rfl, hWR2⟩ := hpo
    replace hP := lz_permP (sk_pR ((o 0), .inr (3, [.ref (o 1), .ref (o 2), .ref (o 6), .ref (o 11), .int (nI (sT x)), .int (nI ev), .int (sd x)])) ((o 1), .inl (cF, n, .inr (.inr (.inl (sc x))))) wD w1 wS).symm hP
    replace hD := lz_permD (sk_pR ((o 0), .inr (3, [.ref (o 1), .ref (o 2), .ref (o 6), .ref (o 11), .int (nI (sT x)), .int (nI ev), .int (sd x)])) ((o 1), .inl (cF, n, .inr (.inr (.inl (sc x))))) wD w1 wS).symm hD
    have hP : va_P D vwCl (((o 0), .inr (3, [.ref (o 1), .ref (o 2), .ref (o 6), .ref (o 11), .int (nI (sT x)), .int (nI ev), .int (sd x)])) :: ((o 1), .inl (cF, n, .inr (.inr (.inl (sc x))))) :: (wD ++ (w1 ++ wS))) H := hP
    have hD : va_D A (((o 0), .inr (3, [.ref (o 1), .ref (o 2), .ref (o 6), .ref (o 11), .int (nI (sT x)), .int (nI ev), .int (sd x)])) :: ((o 1), .inl (cF, n, .inr (.inr (.inl (sc x))))) :: (wD ++ (w1 ++ wS))) := hD
    refine vx_ret (W.widen (k := 8) (n := 48) (Nat.le_of_ble_eq_true rfl) (Nat.le_of_ble_eq_true rfl) ?_)
    exact W.iret hx hb hr (fun t9 ht9 _ => ⟨⟨_, (((o 0), .inr (3, [.ref (o 1), .ref (o 2), .ref (o 6), .ref (o 11), .int (nI (sT x)), .int (nI ev), .int (sd x)])) :: ((o 1), .inl (cF, n, .inr (.inr (.inl (sc x))))) :: (wD ++ (w1 ++ wS))), rfl, ⟨(iz_le_l (by omega)).mp c_1, rfl, wD, w1, wS, hWD, hWR2, hWS, rfl⟩, by show va_P D vwCl _ t9.heap; rw [ht9]; exact hP⟩, hS.F ht9⟩) hS.2.2 dX3_forget_26
  · exact lx_thA (text := "step is below T") (is := 107) (by decide) hC hx hb htab hlk hl hP hS (hts (.classLink RX3 41 "java/lang/IllegalArgumentException") (List.mem_of_getElem? (i := 1) rfl)) (hts (.initialized "java/lang/IllegalArgumentException") (List.mem_of_getElem? (i := 2) rfl)) (fun _ h9 => List.mem_cons_of_mem _ (List.mem_append_right _ h9)) dX3_forget_8 dX3_forget_11 dX3_forget_12 dX3_forget_14 dX3_forget_17 (Nat.le_of_ble_eq_true rfl) (Nat.le_of_ble_eq_true rfl) (Nat.le_of_ble_eq_true rfl) (Nat.le_of_ble_eq_true rfl) (Or.inl ⟨rfl, fun q => c_1 ((iz_le_l (by omega)).mpr q)⟩) (Nat.le_of_ble_eq_true rfl) (Nat.le_of_ble_eq_true rfl)

set_option maxRecDepth 100000 in
set_option maxHeartbeats 4000000 in
/-- late(step, cell, way, v) -/
theorem c_X3_late {t z q : Int32} {v : UInt32} (hw : WC cI cF cQ o n ev R x w) (hx0 : Ok n ev R x) (hs : srt (sL x)) : vx_Met l yX3_late wsX3_late (rmk 9 8 48) (pcW l D cI cF cQ aT [.ref (o 0), .int t, .int z, .int q, .float v] w sz) (va_Qi (fun (r : Int32) (w1 : va_W) => (kn n z) ∧ (okW q v ∧ 0 ≤ t.toInt ∧ t.toInt ≤ (sT x : Int)) ∧ (1 + (sL x).length ≤ 512 ∧ 0 < hsn (sS x) t.toInt) ∧ r = ltv (sS x) (sT x) t.toInt ∧ WC cI cF cQ o n ev R (ltx n R ev (stL x (rins (sL x) (tn t, tn z, tn q, v))) t.toInt) w1) (fun w1 t => va_P D vwCl w1 t.heap) (va_A w sz)) (xW D w (xc eI eA eS (kn n z) (okW q v ∧ 0 ≤ t.toInt ∧ t.toInt ≤ (sT x : Int)) (1 + (sL x).length ≤ 512 ∧ 0 < hsn (sS x) t.toInt)) (va_A w sz)) 8 48 (va_A w sz) := by
  obtain ⟨wD, wR, wS, hWD, hWR, hWS, rfl⟩ := id hw
  refine lz_ofX (Qf := fun A => va_Qi (fun (r : Int32) (w1 : va_W) => (kn n z) ∧ (okW q v ∧ 0 ≤ t.toInt ∧ t.toInt ≤ (sT x : Int)) ∧ (1 + (sL x).length ≤ 512 ∧ 0 < hsn (sS x) t.toInt) ∧ r = ltv (sS x) (sT x) t.toInt ∧ WC cI cF cQ o n ev R (ltx n R ev (stL x (rins (sL x) (tn t, tn z, tn q, v))) t.toInt) w1) (fun w1 t => va_P D vwCl w1 t.heap) A) (XF := fun A => xW D (skW cF o n ev x wD wR wS) (xc eI eA eS (kn n z) (okW q v ∧ 0 ≤ t.toInt ∧ t.toInt ≤ (sT x : Int)) (1 + (sL x).length ≤ 512 ∧ 0 < hsn (sS x) t.toInt)) A) (cc := cX3_late) (maxL := 6) (ret := (some .int)) (by decide) rfl (Nat.le_of_ble_eq_true rfl) ?_
  intro p e s m below meth c A hAe hsz htab hx hb hr hlk hC hP hD hS ls hl
  clear hAe
  have hts := hC.1.2.2.2.2
  have hown : s.vm.findClass RX3 = some m.cls := hC.1.2.2.2.1
  have hml := hC.1.2.2.1
  have hA := hC.2.1
  have hK := hC.2.2.2.1
  have hnm := hC.2.2.2.2.1
  have hnf := hC.2.2.2.2.2.1
  have hiX3 : ∀ w ∈ u_ws RX3 TX3 7, w ∈ wsX3_late := fun _ h => List.mem_cons_of_mem _ (List.mem_append_left _ (List.mem_append_left _ (List.mem_append_left _ (List.mem_append_left _ (List.mem_append_left _ (List.mem_append_left _ (List.mem_append_right _ h)))))))
  have hiX1 : ∀ w ∈ u_ws RX1 TX1 5, w ∈ wsX3_late := fun _ h => List.mem_cons_of_mem _ (List.mem_append_left _ (List.mem_append_left _ (List.mem_append_left _ (List.mem_append_left _ (List.mem_append_left _ (List.mem_append_right _ h))))))
  have hl : lv_has ls 6 [(0, .ref (o 0)), (1, .int t), (2, .int z), (3, .int q), (4, .float v)] := hl
  have hn9 := hx0.1.2
  have hev9 := hx0.2.1
  have hR9 : dIn n R := hx0.2.2.1
  have hcf : cfin (sc x) := hx0.2.2.2.1
  have hT9 : sT x < 2 ^ 29 := hx0.2.2.2.2.1
  have hL9 : rIn n (sL x) := hx0.2.2.2.2.2.1
  have hS9 : sGood (sS x) := hx0.2.2.2.2.2.2.1
  have hL8 := hL9.1
  have hS8 := hS9.2.1
  have hR8 := hR9.1
  refine lv_aload_n hx hb dX3_late_0 rfl (lv_at hl 0 rfl) ?_
  refine lv_iload_n hx hb dX3_late_1 rfl (lv_at hl 2 rfl) ?_
  refine lx_cv (lx_runV (C := RX3) (As := [.int z]) (rest := []) hC hS hl (c_X3_needCell hw hn9) (cwV 1 hts gX3_late_X3_needCell rfl rfl rfl (by decide +kernel) ⟨Nat.le_of_ble_eq_true rfl, Nat.le_of_ble_eq_true rfl⟩) hP hD (va_recv hK hP (ci := 3) (q0 := 0) rfl rfl) rfl rfl (Nat.le_of_ble_eq_true rfl) dX3_late_2 ⟨Nat.le_of_ble_eq_true rfl, Nat.le_of_ble_eq_true rfl⟩) hD hS hA (fun E9 ce9 q9 H locs hE9 hP hS h91 h92 h93 => lx_out htab hlk h91 h92 h93 (Or.inl ⟨hE9.1, hE9.2⟩) hP hS (Nat.le_of_ble_eq_true rfl) (Nat.le_of_ble_eq_true rfl)) (fun H locs hp1 hP hS => ?_)
  refine lv_iload_n hx hb dX3_late_5 rfl (lv_at hl 3 rfl) ?_
  refine lv_fload hx hb dX3_late_6 (lv_at hl 4 rfl) ?_
  refine lx_cv (lx_runS (As := [.int q, .float v]) (rest := []) hC hS hl c_X3_needWay (va_cwS 2 hts gX3_late_X3_needWayAndNumber rfl rfl rfl (by decide +kernel) ⟨Nat.le_of_ble_eq_true rfl, Nat.le_of_ble_eq_true rfl⟩) hP hD rfl rfl (Nat.le_of_ble_eq_true rfl) dX3_late_8 ⟨Nat.le_of_ble_eq_true rfl, Nat.le_of_ble_eq_true rfl⟩) hD hS hA (fun E9 ce9 q9 H locs hE9 hP hS h91 h92 h93 => lx_out htab hlk h91 h92 h93 (Or.inr (Or.inl ⟨hE9.1, hp1, fun q => hE9.2 q.1⟩)) hP hS (Nat.le_of_ble_eq_true rfl) (Nat.le_of_ble_eq_true rfl)) (fun H locs hp2 hP hS => ?_)
  refine lv_iload_n hx hb dX3_late_11 rfl (lv_at hl 1 rfl) ?_
  refine lv_if_lt (tgt := 23) hx hb dX3_late_12 (by decide) (fun c_1 => ?_) (fun c_1 => ?_)
  · exact lx_thA (text := "step is not 0 .. T") (is := 112) (by decide) hC hx hb htab hlk hl hP hS (hts (.classLink RX3 41 "java/lang/IllegalArgumentException") (List.mem_of_getElem? (i := 1) rfl)) (hts (.initialized "java/lang/IllegalArgumentException") (List.mem_of_getElem? (i := 2) rfl)) (fun _ h9 => List.mem_cons_of_mem _ (List.mem_append_left _ (List.mem_append_left _ (List.mem_append_right _ h9)))) dX3_late_23 dX3_late_26 dX3_late_27 dX3_late_29 dX3_late_32 (Nat.le_of_ble_eq_true rfl) (Nat.le_of_ble_eq_true rfl) (Nat.le_of_ble_eq_true rfl) (Nat.le_of_ble_eq_true rfl) (Or.inr (Or.inl ⟨rfl, hp1, fun q => absurd (iz_lt0.mp c_1) (by omega)⟩)) (Nat.le_of_ble_eq_true rfl) (Nat.le_of_ble_eq_true rfl)
  · have h0 : 0 ≤ t.toInt := by have := mt iz_lt0.mpr c_1; omega
    refine lv_iload_n hx hb dX3_late_15 rfl (lv_at hl 1 rfl) ?_
    refine lv_aload_n hx hb dX3_late_16 rfl (lv_at hl 0 rfl) ?_
    refine va_get (D := D) (ci := 3) (v := .int (nI (sT x))) (C := RX3) (T := TX3) (N := 7) hx hb hts hiX3 hown hK hP 0 rfl rfl 4 (by decide) (hts (.fieldLink RX3 57 "StateKeeper" "present" "I") (List.mem_of_getElem? (i := 5) rfl)) (fun _ h9 => h9) rfl dX3_late_17 ?_
    refine lv_icmp_le (tgt := 33) hx hb dX3_late_20 (by decide) (fun c_2 => ?_) (fun c_2 => ?_)
    · have h1 : t.toInt ≤ (sT x : Int) := (iz_le_r (by omega)).mp c_2
      refine lv_aload_n hx hb dX3_late_33 rfl (lv_at hl 0 rfl) ?_
      refine lv_iconst (v := nI 1) hx hb dX3_late_34 (by decide) ?_
      refine lx_cv (lx_runV (C := RX3) (As := [.int (nI 1)]) (rest := []) hC hS hl (c_X3_needRoom (k := 1) (by omega) hL8 hw) (cwV 1 hts gX3_late_X3_needRoom rfl rfl rfl (by decide +kernel) ⟨Nat.le_of_ble_eq_true rfl, Nat.le_of_ble_eq_true rfl⟩) hP hD (va_recv hK hP (ci := 3) (q0 := 0) rfl rfl) rfl rfl (Nat.le_of_ble_eq_true rfl) dX3_late_35 ⟨Nat.le_of_ble_eq_true rfl, Nat.le_of_ble_eq_true rfl⟩) hD hS hA (fun E9 ce9 q9 H locs hE9 hP hS h91 h92 h93 => lx_out htab hlk h91 h92 h93 (Or.inr (Or.inr ⟨hE9.1, hp1, ⟨hp2, h0, h1⟩, fun q => hE9.2 q.1⟩)) hP hS (Nat.le_of_ble_eq_true rfl) (Nat.le_of_ble_eq_true rfl)) (fun H locs hp3 hP hS => ?_)
      obtain ⟨a, f1, M, ha, hok, rfl⟩ := id hWS
      refine lv_aload_n hx hb dX3_late_38 rfl (lv_at hl 0 rfl) ?_
      refine va_get (D := D) (ci := 3) (v := .ref (o 11)) (C := RX3) (T := TX3) (N := 7) hx hb hts hiX3 hown hK hP 0 rfl rfl 3 (by decide) (hts (.fieldLink RX3 32 "StateKeeper" "snapshots" "LStateKeeper$Snapshots;") (List.mem_of_getElem? (i := 6) rfl)) (fun _ h9 => h9) rfl dX3_late_39 ?_
      refine lv_iload_n hx hb dX3_late_42 rfl (lv_at hl 1 rfl) ?_
      have hPc : va_P D vwCl (snapW cI cF cQ o n a (sS x).length f1 M) _ := lz_cutP (sk_pS ((o 0), .inr (3, [.ref (o 1), .ref (o 2), .ref (o 6), .ref (o 11), .int (nI (sT x)), .int (nI ev), .int (sd x)])) ((o 1), .inl (cF, n, .inr (.inr (.inl (sc x))))) wD wR (snapW cI cF cQ o n a (sS x).length f1 M)) hP
      have hDc : va_D A (snapW cI cF cQ o n a (sS x).length f1 M) := lz_cutD (sk_pS ((o 0), .inr (3, [.ref (o 1), .ref (o 2), .ref (o 6), .ref (o 11), .int (nI (sT x)), .int (nI ev), .int (sd x)])) ((o 1), .inl (cF, n, .inr (.inr (.inl (sc x))))) wD wR (snapW cI cF cQ o n a (sS x).length f1 M)) hD
      refine vp_callSi (lz_runVN (C := RX2) (As := [.int t]) (rest := []) hC hS hl (c_X2_highestNotAbove ha hok hS9) ⟨va_cnB 1 hts gX3_late_X2_highestNotAbove_n114 rfl rfl rfl (hnm (RX3, 114, yX2_highestNotAbove) (by decide)) (hts (.initialized RX2) (List.mem_of_getElem? (i := 26) rfl)) (by decide +kernel) ⟨Nat.le_of_ble_eq_true rfl, Nat.le_of_ble_eq_true rfl⟩, (hts (.instanceMethod yX2_highestNotAbove) (List.mem_of_getElem? (i := 25) rfl)), (hts (.selects RX2 yX2_highestNotAbove yX2_highestNotAbove) (List.mem_of_getElem? (i := 27) rfl))⟩ hPc hDc (va_recv hK hPc (ci := 2) (q0 := 0) rfl rfl) rfl rfl (Nat.le_of_ble_eq_true rfl) dX3_late_43 ⟨Nat.le_of_ble_eq_true rfl, Nat.le_of_ble_eq_true rfl⟩).run (fun r_3 er_3 => ?_)
      subst er_3
      have hhl := hsn_le (sS x) t.toInt
      rcases Nat.eq_zero_or_pos (hsn (sS x) t.toInt) with hh | hh
      · refine lz_i (y := -1) (by rw [hh]; rfl) ?_
        refine lv_istore (lv' := [(5, .int (-1)), (0, .ref (o 0)), (1, .int t), (2, .int z), (3, .int q), (4, .float v)]) hx hb dX3_late_46 hl (by decide) rfl (fun ls hl => ?_)
        refine lv_iload hx hb dX3_late_48 (lv_at hl 0 rfl) ?_
        refine lv_iconst (v := -1) hx hb dX3_late_50 (by decide) ?_
        refine lv_icmp_ne (tgt := 64) hx hb dX3_late_51 (by decide) (fun c1 => absurd rfl c1) (fun c1 => ?_)
        exact lx_thS (text := "there is no snapshot to step from") (is := 117) (by decide) hC hx hb htab hlk hl hP hS (hts (.classLink RX3 52 "java/lang/IllegalStateException") (List.mem_of_getElem? (i := 3) rfl)) (hts (.initialized "java/lang/IllegalStateException") (List.mem_of_getElem? (i := 4) rfl)) (fun _ h9 => List.mem_cons_of_mem _ (List.mem_append_left _ (List.mem_append_right _ h9))) dX3_late_54 dX3_late_57 dX3_late_58 dX3_late_60 dX3_late_63 (Nat.le_of_ble_eq_true rfl) (Nat.le_of_ble_eq_true rfl) (Nat.le_of_ble_eq_true rfl) (Nat.le_of_ble_eq_true rfl) (Or.inr (Or.inr ⟨rfl, hp1, ⟨hp2, h0, h1⟩, fun q => absurd q.2 (by omega)⟩)) (Nat.le_of_ble_eq_true rfl) (Nat.le_of_ble_eq_true rfl)
      · refine lz_i (y := nI (hsn (sS x) t.toInt - 1)) (pk_sub hh) ?_
        refine lv_istore (lv' := [(5, .int (nI (hsn (sS x) t.toInt - 1))), (0, .ref (o 0)), (1, .int t), (2, .int z), (3, .int q), (4, .float v)]) hx hb dX3_late_46 hl (by decide) rfl (fun ls hl => ?_)
        refine lv_iload hx hb dX3_late_48 (lv_at hl 0 rfl) ?_
        refine lv_iconst (v := -1) hx hb dX3_late_50 (by decide) ?_
        refine lv_icmp_ne (tgt := 64) hx hb dX3_late_51 (by decide) (fun c_4 => ?_) (fun c_4 => absurd c_4 (iz_m1 (by omega)))
        obtain ⟨u, hu8, rfl, hu⟩ := iz_nat hp1.1
        obtain ⟨q0, hq8, rfl, hq⟩ := iz_nat hp2.1.1
        obtain ⟨t0, ht8, rfl, ht⟩ := iz_nat h0
        have hl : lv_has ls 6 [(5, .int (nI (hsn (sS x) (nI t0).toInt - 1))), (0, .ref (o 0)), (1, .int (nI t0)), (2, .int (nI u)), (3, .int (nI q0)), (4, .float v)] := hl
        obtain ⟨g1, g2, g3, g4, hrec, rfl⟩ := id hWR
        refine lv_aload_n hx hb dX3_late_64 rfl (lv_at hl 1 rfl) ?_
        refine va_get (D := D) (ci := 3) (v := .ref (o 6)) (C := RX3) (T := TX3) (N := 7) hx hb hts hiX3 hown hK hP 0 rfl rfl 2 (by decide) (hts (.fieldLink RX3 23 "StateKeeper" "inputRecord" "LStateKeeper$InputRecord;") (List.mem_of_getElem? (i := 7) rfl)) (fun _ h9 => h9) rfl dX3_late_65 ?_
        refine lv_iload_n hx hb dX3_late_68 rfl (lv_at hl 2 rfl) ?_
        refine lv_iload_n hx hb dX3_late_69 rfl (lv_at hl 3 rfl) ?_
        refine lv_iload_n hx hb dX3_late_70 rfl (lv_at hl 4 rfl) ?_
        refine lv_fload hx hb dX3_late_71 (lv_at hl 5 rfl) ?_
        have hPc : va_P D vwCl (recW cI cF o (sL x).length g1 g2 g3 g4) _ := lz_cutP (sk_pR ((o 0), .inr (3, [.ref (o 1), .ref (o 2), .ref (o 6), .ref (o 11), .int (nI (sT x)), .int (nI ev), .int (sd x)])) ((o 1), .inl (cF, n, .inr (.inr (.inl (sc x))))) wD (recW cI cF o (sL x).length g1 g2 g3 g4) (snapW cI cF cQ o n a (sS x).length f1 M)) hP
        have hDc : va_D A (recW cI cF o (sL x).length g1 g2 g3 g4) := lz_cutD (sk_pR ((o 0), .inr (3, [.ref (o 1), .ref (o 2), .ref (o 6), .ref (o 11), .int (nI (sT x)), .int (nI ev), .int (sd x)])) ((o 1), .inl (cF, n, .inr (.inr (.inl (sc x))))) wD (recW cI cF o (sL x).length g1 g2 g3 g4) (snapW cI cF cQ o n a (sS x).length f1 M)) hD
        refine lz_cMv (w2 := fun w1 => w1 ++ (((o 0), .inr (3, [.ref (o 1), .ref (o 2), .ref (o 6), .ref (o 11), .int (nI (sT x)), .int (nI ev), .int (sd x)])) :: ((o 1), .inl (cF, n, .inr (.inr (.inl (sc x))))) :: (wD ++ (snapW cI cF cQ o n a (sS x).length f1 M)))) (lz_runVN (C := RX1) (As := [.int (nI t0), .int (nI u), .int (nI q0), .float v]) (rest := []) hC hS hl (c_X1_append hrec hs hL9 (show t0 < 2 ^ 30 by omega) (by omega)) ⟨va_cnB 4 hts gX3_late_X1_append_n79 rfl rfl rfl (hnm (RX3, 79, yX1_append) (by decide)) (hts (.initialized RX1) (List.mem_of_getElem? (i := 41) rfl)) (by decide +kernel) ⟨Nat.le_of_ble_eq_true rfl, Nat.le_of_ble_eq_true rfl⟩, (hts (.instanceMethod yX1_append) (List.mem_of_getElem? (i := 40) rfl)), (hts (.selects RX1 yX1_append yX1_append) (List.mem_of_getElem? (i := 42) rfl))⟩ hPc hDc (va_recv hK hPc (ci := 1) (q0 := 0) rfl rfl) rfl rfl (Nat.le_of_ble_eq_true rfl) dX3_late_73 ⟨Nat.le_of_ble_eq_true rfl, Nat.le_of_ble_eq_true rfl⟩) hP hD hS hA (sk_pR ((o 0), .inr (3, [.ref (o 1), .ref (o 2), .ref (o 6), .ref (o 11), .int (nI (sT x)), .int (nI ev), .int (sd x)])) ((o 1), .inl (cF, n, .inr (.inr (.inl (sc x))))) wD (recW cI cF o (sL x).length g1 g2 g3 g4) (snapW cI cF cQ o n a (sS x).length f1 M)) (fun w1 h => h.ad2 hWR) (fun _ => List.Perm.refl _) (fun w1 H locs hpo hP hD hS => ?_)
        have hWR2 := hpo
        replace hP := lz_permP (sk_pR ((o 0), .inr (3, [.ref (o 1), .ref (o 2), .ref (o 6), .ref (o 11), .int (nI (sT x)), .int (nI ev), .int (sd x)])) ((o 1), .inl (cF, n, .inr (.inr (.inl (sc x))))) wD w1 (snapW cI cF cQ o n a (sS x).length f1 M)).symm hP
        replace hD := lz_permD (sk_pR ((o 0), .inr (3, [.ref (o 1), .ref (o 2), .ref (o 6), .ref (o 11), .int (nI (sT x)), .int (nI ev), .int (sd x)])) ((o 1), .inl (cF, n, .inr (.inr (.inl (sc x))))) wD w1 (snapW cI cF cQ o n a (sS x).length f1 M)).symm hD
        have hP : va_P D vwCl (((o 0), .inr (3, [.ref (o 1), .ref (o 2), .ref (o 6), .ref (o 11), .int (nI (sT x)), .int (nI ev), .int (sd x)])) :: ((o 1), .inl (cF, n, .inr (.inr (.inl (sc x))))) :: (wD ++ (w1 ++ (snapW cI cF cQ o n a (sS x).length f1 M)))) H := hP
        have hD : va_D A (((o 0), .inr (3, [.ref (o 1), .ref (o 2), .ref (o 6), .ref (o 11), .int (nI (sT x)), .int (nI ev), .int (sd x)])) :: ((o 1), .inl (cF, n, .inr (.inr (.inl (sc x))))) :: (wD ++ (w1 ++ (snapW cI cF cQ o n a (sS x).length f1 M)))) := hD
        have hen : rIn n (rins (sL x) (t0, u, q0, v)) := rIn_rins hL9 (by omega) ⟨by show t0 < 2 ^ 30; omega, by show u < n; omega, by show q0 ≤ 2; omega, inF_F cN_F cP_F hp2.2⟩
        have hrw : rins (sL x) (tn (nI t0), tn (nI u), tn (nI q0), v) = (rins (sL x) (t0, u, q0, v)) := by rw [tn_nI ht8, tn_nI hu8, tn_nI hq8]
        have hpp : kn n (nI u) ∧ (okW (nI q0) v ∧ 0 ≤ (nI t0).toInt ∧ (nI t0).toInt ≤ (sT x : Int)) ∧ (1 + (sL x).length ≤ 512 ∧ 0 < hsn (sS x) (nI t0).toInt) := ⟨hp1, ⟨hp2, h0, h1⟩, hp3, hh⟩
        refine lv_iload_n hx hb dX3_late_76 rfl (lv_at hl 2 rfl) ?_
        refine lv_aload_n hx hb dX3_late_77 rfl (lv_at hl 1 rfl) ?_
        refine va_get (D := D) (ci := 3) (v := .int (nI (sT x))) (C := RX3) (T := TX3) (N := 7) hx hb hts hiX3 hown hK hP 0 rfl rfl 4 (by decide) (hts (.fieldLink RX3 57 "StateKeeper" "present" "I") (List.mem_of_getElem? (i := 5) rfl)) (fun _ h9 => h9) rfl dX3_late_78 ?_
        refine lv_icmp_ge (tgt := 93) hx hb dX3_late_81 (by decide) (fun c_5 => ?_) (fun c_5 => ?_)
        · have hTt : (nI t0).toInt = (sT x : Int) := by have := (nI_le_iff (by omega) (by omega)).mp c_5; omega
          refine lv_iconst (v := nI 0) hx hb dX3_late_93 (by decide) ?_
          refine vx_ret (W.widen (k := 8) (n := 48) (Nat.le_of_ble_eq_true rfl) (Nat.le_of_ble_eq_true rfl) ?_)
          exact W.iret hx hb hr (fun t9 ht9 _ => ⟨⟨_, (((o 0), .inr (3, [.ref (o 1), .ref (o 2), .ref (o 6), .ref (o 11), .int (nI (sT x)), .int (nI ev), .int (sd x)])) :: ((o 1), .inl (cF, n, .inr (.inr (.inl (sc x))))) :: (wD ++ (w1 ++ (snapW cI cF cQ o n a (sS x).length f1 M)))), rfl, ⟨hpp.1, hpp.2.1, hpp.2.2, by unfold ltv; rw [if_pos hTt], by rw [hrw]; unfold ltx; rw [if_pos (show (nI t0).toInt = (sT (stL x (rins (sL x) (t0, u, q0, v))) : Int) from hTt)]; exact ⟨wD, w1, (snapW cI cF cQ o n a (sS x).length f1 M), hWD, hWR2, hWS, rfl⟩⟩, by show va_P D vwCl _ t9.heap; rw [ht9]; exact hP⟩, hS.F ht9⟩) hS.2.2 dX3_late_94
        · have hTt : ¬ (nI t0).toInt = (sT x : Int) := fun q => c_5 ((nI_le_iff (by omega) (by omega)).mpr (by omega))
          refine lv_aload_n hx hb dX3_late_84 rfl (lv_at hl 1 rfl) ?_
          refine lv_iload hx hb dX3_late_85 (lv_at hl 0 rfl) ?_
          have hw2 : WC cI cF cQ o n ev R (stL x (rins (sL x) (t0, u, q0, v))) (((o 0), .inr (3, [.ref (o 1), .ref (o 2), .ref (o 6), .ref (o 11), .int (nI (sT x)), .int (nI ev), .int (sd x)])) :: ((o 1), .inl (cF, n, .inr (.inr (.inl (sc x))))) :: (wD ++ (w1 ++ (snapW cI cF cQ o n a (sS x).length f1 M)))) := ⟨wD, w1, (snapW cI cF cQ o n a (sS x).length f1 M), hWD, hWR2, hWS, rfl⟩
          obtain ⟨ee, hj⟩ : ∃ ee, (sS x)[hsn (sS x) (nI t0).toInt - 1]? = some ee := ⟨_, List.getElem?_eq_getElem (by omega)⟩
          refine lz_cMi0 (lz_runV (C := RX3) (As := [.int (nI (hsn (sS x) (nI t0).toInt - 1))]) (rest := []) hC hS hl (c_X3_stepAgainFrom (x := stL x (rins (sL x) (t0, u, q0, v))) hj hw2 (Ok_L hx0 hen) (rins_srt hs _)) (cwV 1 hts gX3_late_X3_stepAgainFrom rfl rfl rfl (by decide +kernel) ⟨Nat.le_of_ble_eq_true rfl, Nat.le_of_ble_eq_true rfl⟩) hP hD (va_recv hK hP (ci := 3) (q0 := 0) rfl rfl) rfl rfl (Nat.le_of_ble_eq_true rfl) dX3_late_87 ⟨Nat.le_of_ble_eq_true rfl, Nat.le_of_ble_eq_true rfl⟩) hD hS hA (fun r w1 h => h.2.ad2 hw2) (fun r_6 w1 H locs hpo hP hD hS => ?_)
          obtain ⟨rfl, hw8⟩ := hpo
          refine lv_goto (tgt := 94) hx hb dX3_late_90 (by decide) ?_
          refine vx_ret (W.widen (k := 8) (n := 48) (Nat.le_of_ble_eq_true rfl) (Nat.le_of_ble_eq_true rfl) ?_)
          exact W.iret hx hb hr (fun t9 ht9 _ => ⟨⟨_, w1, rfl, ⟨hpp.1, hpp.2.1, hpp.2.2, by unfold ltv; rw [if_neg hTt, hj], by rw [hrw]; unfold ltx; rw [if_neg (show ¬ (nI t0).toInt = (sT (stL x (rins (sL x) (t0, u, q0, v))) : Int) from hTt), show (sS (stL x (rins (sL x) (t0, u, q0, v))))[hsn (sS (stL x (rins (sL x) (t0, u, q0, v)))) (nI t0).toInt - 1]? = some ee from hj]; exact hw8⟩, by show va_P D vwCl _ t9.heap; rw [ht9]; exact hP⟩, hS.F ht9⟩) hS.2.2 dX3_late_94
    · exact lx_thA (text := "step is not 0 .. T") (is := 112) (by decide) hC hx hb htab hlk hl hP hS (hts (.classLink RX3 41 "java/lang/IllegalArgumentException") (List.mem_of_getElem? (i := 1) rfl)) (hts (.initialized "java/lang/IllegalArgumentException") (List.mem_of_getElem? (i := 2) rfl)) (fun _ h9 => List.mem_cons_of_mem _ (List.mem_append_left _ (List.mem_append_left _ (List.mem_append_right _ h9)))) dX3_late_23 dX3_late_26 dX3_late_27 dX3_late_29 dX3_late_32 (Nat.le_of_ble_eq_true rfl) (Nat.le_of_ble_eq_true rfl) (Nat.le_of_ble_eq_true rfl) (Nat.le_of_ble_eq_true rfl) (Or.inr (Or.inl ⟨rfl, hp1, fun q => c_2 ((iz_le_r (by omega)).mpr q.2.2)⟩)) (Nat.le_of_ble_eq_true rfl) (Nat.le_of_ble_eq_true rfl)

set_option maxRecDepth 100000 in
set_option maxHeartbeats 4000000 in
/-- cell(i) -/
theorem c_X3_cell {z : Int32} (hw : WC cI cF cQ o n ev R x w) (hx0 : Ok n ev R x) (hs : srt (sL x)) : vx_Met l yX3_cell wsX3_cell (rmk 9 8 48) (pcW l D cI cF cQ aT [.ref (o 0), .int z] w sz) (va_Qf (fun (r : UInt32) (w1 : va_W) => kn n z ∧ r = sc x (tn z) ∧ WC cI cF cQ o n ev R x w1) (fun w1 t => va_P D vwCl w1 t.heap) (va_A w sz)) (xW D w (xc eI eI eI (kn n z) True True) (va_A w sz)) 8 48 (va_A w sz) := by
  obtain ⟨wD, wR, wS, hWD, hWR, hWS, rfl⟩ := id hw
  refine lz_ofX (Qf := fun A => va_Qf (fun (r : UInt32) (w1 : va_W) => kn n z ∧ r = sc x (tn z) ∧ WC cI cF cQ o n ev R x w1) (fun w1 t => va_P D vwCl w1 t.heap) A) (XF := fun A => xW D (skW cF o n ev x wD wR wS) (xc eI eI eI (kn n z) True True) A) (cc := cX3_cell) (maxL := 2) (ret := (some .float)) (by decide) rfl (Nat.le_of_ble_eq_true rfl) ?_
  intro p e s m below meth c A hAe hsz htab hx hb hr hlk hC hP hD hS ls hl
  clear hAe
  have hts := hC.1.2.2.2.2
  have hown : s.vm.findClass RX3 = some m.cls := hC.1.2.2.2.1
  have hml := hC.1.2.2.1
  have hA := hC.2.1
  have hK := hC.2.2.2.1
  have hnm := hC.2.2.2.2.1
  have hnf := hC.2.2.2.2.2.1
  have hiX3 : ∀ w ∈ u_ws RX3 TX3 7, w ∈ wsX3_cell := fun _ h => List.mem_cons_of_mem _ (List.mem_append_left _ (List.mem_append_right _ h))
  have hl : lv_has ls 2 [(0, .ref (o 0)), (1, .int z)] := hl
  have hn9 := hx0.1.2
  have hev9 := hx0.2.1
  have hR9 : dIn n R := hx0.2.2.1
  have hcf : cfin (sc x) := hx0.2.2.2.1
  have hT9 : sT x < 2 ^ 29 := hx0.2.2.2.2.1
  have hL9 : rIn n (sL x) := hx0.2.2.2.2.2.1
  have hS9 : sGood (sS x) := hx0.2.2.2.2.2.2.1
  have hL8 := hL9.1
  have hS8 := hS9.2.1
  have hR8 := hR9.1
  refine lv_aload_n hx hb dX3_cell_0 rfl (lv_at hl 0 rfl) ?_
  refine lv_iload_n hx hb dX3_cell_1 rfl (lv_at hl 1 rfl) ?_
  refine lx_cv (lx_runV (C := RX3) (As := [.int z]) (rest := []) hC hS hl (c_X3_needCell hw hn9) (cwV 1 hts gX3_cell_X3_needCell rfl rfl rfl (by decide +kernel) ⟨Nat.le_of_ble_eq_true rfl, Nat.le_of_ble_eq_true rfl⟩) hP hD (va_recv hK hP (ci := 3) (q0 := 0) rfl rfl) rfl rfl (Nat.le_of_ble_eq_true rfl) dX3_cell_2 ⟨Nat.le_of_ble_eq_true rfl, Nat.le_of_ble_eq_true rfl⟩) hD hS hA (fun E9 ce9 q9 H locs hE9 hP hS h91 h92 h93 => lx_out htab hlk h91 h92 h93 (Or.inl ⟨hE9.1, hE9.2⟩) hP hS (Nat.le_of_ble_eq_true rfl) (Nat.le_of_ble_eq_true rfl)) (fun H locs hp1 hP hS => ?_)
  obtain ⟨u, hu8, rfl, hu⟩ := iz_nat hp1.1
  have hl : lv_has ls 2 [(0, .ref (o 0)), (1, .int (nI u))] := hl
  refine lv_aload_n hx hb dX3_cell_5 rfl (lv_at hl 0 rfl) ?_
  refine va_get (D := D) (ci := 3) (v := .ref (o 1)) (C := RX3) (T := TX3) (N := 7) hx hb hts hiX3 hown hK hP 0 rfl rfl 0 (by decide) (hts (.fieldLink RX3 9 "StateKeeper" "cells" "[F") (List.mem_of_getElem? (i := 1) rfl)) (fun _ h9 => h9) rfl dX3_cell_6 ?_
  refine lv_iload_n hx hb dX3_cell_9 rfl (lv_at hl 1 rfl) ?_
  refine lz_fald hx hb hK hP 1 0 rfl rfl (by omega) (by omega) dX3_cell_10 ?_
  refine vx_ret (W.widen (k := 8) (n := 48) (Nat.le_of_ble_eq_true rfl) (Nat.le_of_ble_eq_true rfl) ?_)
  exact W.fret hx hb hr (fun t9 ht9 _ => ⟨⟨_, (((o 0), .inr (3, [.ref (o 1), .ref (o 2), .ref (o 6), .ref (o 11), .int (nI (sT x)), .int (nI ev), .int (sd x)])) :: ((o 1), .inl (cF, n, .inr (.inr (.inl (sc x))))) :: (wD ++ (wR ++ wS))), rfl, ⟨hp1, by rw [tn_nI hu8], hw⟩, by show va_P D vwCl _ t9.heap; rw [ht9]; exact hP⟩, hS.F ht9⟩) hS.2.2 dX3_cell_11

set_option maxRecDepth 100000 in
set_option maxHeartbeats 4000000 in
/-- kept(step, i) -/
theorem c_X3_kept {z i : Int32} (hw : WC cI cF cQ o n ev R x w) (hx0 : Ok n ev R x) (hs : srt (sL x)) : vx_Met l yX3_kept wsX3_kept (rmk 9 8 48) (pcW l D cI cF cQ aT [.ref (o 0), .int z, .int i] w sz) (va_Qf (fun (r : UInt32) (w1 : va_W) => (kn n i ∧ plc (sS x) z.toInt ≠ none) ∧ r = sgt (sS x) z.toInt (tn i) ∧ WC cI cF cQ o n ev R x w1) (fun w1 t => va_P D vwCl w1 t.heap) (va_A w sz)) (xW D w (xc eI eI eI (kn n i ∧ plc (sS x) z.toInt ≠ none) True True) (va_A w sz)) 8 48 (va_A w sz) := by
  obtain ⟨wD, wR, wS, hWD, hWR, hWS, rfl⟩ := id hw
  refine lz_ofX (Qf := fun A => va_Qf (fun (r : UInt32) (w1 : va_W) => (kn n i ∧ plc (sS x) z.toInt ≠ none) ∧ r = sgt (sS x) z.toInt (tn i) ∧ WC cI cF cQ o n ev R x w1) (fun w1 t => va_P D vwCl w1 t.heap) A) (XF := fun A => xW D (skW cF o n ev x wD wR wS) (xc eI eI eI (kn n i ∧ plc (sS x) z.toInt ≠ none) True True) A) (cc := cX3_kept) (maxL := 3) (ret := (some .float)) (by decide) rfl (Nat.le_of_ble_eq_true rfl) ?_
  intro p e s m below meth c A hAe hsz htab hx hb hr hlk hC hP hD hS ls hl
  clear hAe
  have hts := hC.1.2.2.2.2
  have hown : s.vm.findClass RX3 = some m.cls := hC.1.2.2.2.1
  have hml := hC.1.2.2.1
  have hA := hC.2.1
  have hK := hC.2.2.2.1
  have hnm := hC.2.2.2.2.1
  have hnf := hC.2.2.2.2.2.1
  have hiX3 : ∀ w ∈ u_ws RX3 TX3 7, w ∈ wsX3_kept := fun _ h => List.mem_cons_of_mem _ (List.mem_append_left _ (List.mem_append_left _ (List.mem_append_right _ h)))
  have hl : lv_has ls 3 [(0, .ref (o 0)), (1, .int z), (2, .int i)] := hl
  have hn9 := hx0.1.2
  have hev9 := hx0.2.1
  have hR9 : dIn n R := hx0.2.2.1
  have hcf : cfin (sc x) := hx0.2.2.2.1
  have hT9 : sT x < 2 ^ 29 := hx0.2.2.2.2.1
  have hL9 : rIn n (sL x) := hx0.2.2.2.2.2.1
  have hS9 : sGood (sS x) := hx0.2.2.2.2.2.2.1
  have hL8 := hL9.1
  have hS8 := hS9.2.1
  have hR8 := hR9.1
  refine lv_aload_n hx hb dX3_kept_0 rfl (lv_at hl 0 rfl) ?_
  refine lv_iload_n hx hb dX3_kept_1 rfl (lv_at hl 2 rfl) ?_
  refine lx_cv (lx_runV (C := RX3) (As := [.int i]) (rest := []) hC hS hl (c_X3_needCell hw hn9) (cwV 1 hts gX3_kept_X3_needCell rfl rfl rfl (by decide +kernel) ⟨Nat.le_of_ble_eq_true rfl, Nat.le_of_ble_eq_true rfl⟩) hP hD (va_recv hK hP (ci := 3) (q0 := 0) rfl rfl) rfl rfl (Nat.le_of_ble_eq_true rfl) dX3_kept_2 ⟨Nat.le_of_ble_eq_true rfl, Nat.le_of_ble_eq_true rfl⟩) hD hS hA (fun E9 ce9 q9 H locs hE9 hP hS h91 h92 h93 => lx_out htab hlk h91 h92 h93 (Or.inl ⟨hE9.1, fun q => hE9.2 q.1⟩) hP hS (Nat.le_of_ble_eq_true rfl) (Nat.le_of_ble_eq_true rfl)) (fun H locs hp1 hP hS => ?_)
  refine lv_aload_n hx hb dX3_kept_5 rfl (lv_at hl 0 rfl) ?_
  refine va_get (D := D) (ci := 3) (v := .ref (o 11)) (C := RX3) (T := TX3) (N := 7) hx hb hts hiX3 hown hK hP 0 rfl rfl 3 (by decide) (hts (.fieldLink RX3 32 "StateKeeper" "snapshots" "LStateKeeper$Snapshots;") (List.mem_of_getElem? (i := 1) rfl)) (fun _ h9 => h9) rfl dX3_kept_6 ?_
  refine lv_aload_n hx hb dX3_kept_9 rfl (lv_at hl 0 rfl) ?_
  refine lv_iload_n hx hb dX3_kept_10 rfl (lv_at hl 1 rfl) ?_
  refine lx_ci (lx_runV (C := RX3) (As := [.int z]) (rest := [.ref (o 11)]) hC hS hl (c_X3_neededSnapshot hS9 hw) (cwV 1 hts gX3_kept_X3_neededSnapshot rfl rfl rfl (by decide +kernel) ⟨Nat.le_of_ble_eq_true rfl, Nat.le_of_ble_eq_true rfl⟩) hP hD (va_recv hK hP (ci := 3) (q0 := 0) rfl rfl) rfl rfl (Nat.le_of_ble_eq_true rfl) dX3_kept_11 ⟨Nat.le_of_ble_eq_true rfl, Nat.le_of_ble_eq_true rfl⟩) hD hS hA (fun E9 ce9 q9 H locs hE9 hP hS h91 h92 h93 => lx_out htab hlk h91 h92 h93 (Or.inl ⟨hE9.1, fun q => q.2 hE9.2⟩) hP hS (Nat.le_of_ble_eq_true rfl) (Nat.le_of_ble_eq_true rfl)) (fun r_1 H locs hpo hP hS => ?_)
  obtain ⟨j, hpl, rfl⟩ := hpo
  obtain ⟨ee, hj, hez, hsg⟩ := plc_get hpl
  have hjl : j < (sS x).length := (List.getElem?_eq_some_iff.mp hj).1
  obtain ⟨a, f1, M, ha, hok, rfl⟩ := id hWS
  have hPc : va_P D vwCl (snapW cI cF cQ o n a (sS x).length f1 M) _ := lz_cutP (sk_pS ((o 0), .inr (3, [.ref (o 1), .ref (o 2), .ref (o 6), .ref (o 11), .int (nI (sT x)), .int (nI ev), .int (sd x)])) ((o 1), .inl (cF, n, .inr (.inr (.inl (sc x))))) wD wR (snapW cI cF cQ o n a (sS x).length f1 M)) hP
  have hDc : va_D A (snapW cI cF cQ o n a (sS x).length f1 M) := lz_cutD (sk_pS ((o 0), .inr (3, [.ref (o 1), .ref (o 2), .ref (o 6), .ref (o 11), .int (nI (sT x)), .int (nI ev), .int (sd x)])) ((o 1), .inl (cF, n, .inr (.inr (.inl (sc x))))) wD wR (snapW cI cF cQ o n a (sS x).length f1 M)) hD
  refine va_csr (lz_runVN (C := RX2) (As := [.int (nI j)]) (rest := []) hC hS hl (c_X2_row (k := (sS x).length) ha (by omega)) ⟨va_cnB 1 hts gX3_kept_X2_row_n122 rfl rfl rfl (hnm (RX3, 122, yX2_row) (by decide)) (hts (.initialized RX2) (List.mem_of_getElem? (i := 15) rfl)) (by decide +kernel) ⟨Nat.le_of_ble_eq_true rfl, Nat.le_of_ble_eq_true rfl⟩, (hts (.instanceMethod yX2_row) (List.mem_of_getElem? (i := 33) rfl)), (hts (.selects RX2 yX2_row yX2_row) (List.mem_of_getElem? (i := 34) rfl))⟩ hPc hDc (va_recv hK hPc (ci := 2) (q0 := 0) rfl rfl) rfl rfl (Nat.le_of_ble_eq_true rfl) dX3_kept_14 ⟨Nat.le_of_ble_eq_true rfl, Nat.le_of_ble_eq_true rfl⟩).run (fun q9 hq9 => ?_)
  subst hq9
  have hlt : (a + j) % 16 < 16 := Nat.mod_lt _ (by decide)
  obtain ⟨u, hu8, rfl, hu⟩ := iz_nat hp1.1
  have hl : lv_has ls 3 [(0, .ref (o 0)), (1, .int z), (2, .int (nI u))] := hl
  refine lv_iload_n hx hb dX3_kept_17 rfl (lv_at hl 2 rfl) ?_
  refine lz_fald hx hb hK hPc ((a + j) % 16 + 3) 0 (f := M ((a + j) % 16)) (n := n) (by show (rowsL cF o n M)[(a + j) % 16]? = _; exact rows_get hlt) rfl (by omega) (by omega) dX3_kept_18 ?_
  refine lz_f (y := ee.2 u) ((hok j ee hj).2 u (by omega)) ?_
  refine vx_ret (W.widen (k := 8) (n := 48) (Nat.le_of_ble_eq_true rfl) (Nat.le_of_ble_eq_true rfl) ?_)
  exact W.fret hx hb hr (fun t9 ht9 _ => ⟨⟨_, (((o 0), .inr (3, [.ref (o 1), .ref (o 2), .ref (o 6), .ref (o 11), .int (nI (sT x)), .int (nI ev), .int (sd x)])) :: ((o 1), .inl (cF, n, .inr (.inr (.inl (sc x))))) :: (wD ++ (wR ++ (snapW cI cF cQ o n a (sS x).length f1 M)))), rfl, ⟨⟨hp1, by rw [hpl]; exact Option.some_ne_none j⟩, by rw [tn_nI hu8, hsg], hw⟩, by show va_P D vwCl _ t9.heap; rw [ht9]; exact hP⟩, hS.F ht9⟩) hS.2.2 dX3_kept_19

set_option maxRecDepth 100000 in
set_option maxHeartbeats 4000000 in
/-- differs(step) -/
theorem c_X3_differs {z : Int32} (hw : WC cI cF cQ o n ev R x w) (hx0 : Ok n ev R x) (hs : srt (sL x)) : vx_Met l yX3_differs wsX3_differs (rmk 9 8 48) (pcW l D cI cF cQ aT [.ref (o 0), .int z] w sz) (va_Qi (fun (r : Int32) (w1 : va_W) => (plc (sS x) z.toInt ≠ none) ∧ r = dif (sc x) (sgt (sS x) z.toInt) n 0 ∧ WC cI cF cQ o n ev R x w1) (fun w1 t => va_P D vwCl w1 t.heap) (va_A w sz)) (xW D w (xc eI eI eI (plc (sS x) z.toInt ≠ none) True True) (va_A w sz)) 8 48 (va_A w sz) := by
  obtain ⟨wD, wR, wS, hWD, hWR, hWS, rfl⟩ := id hw
  refine lz_ofX (Qf := fun A => va_Qi (fun (r : Int32) (w1 : va_W) => (plc (sS x) z.toInt ≠ none) ∧ r = dif (sc x) (sgt (sS x) z.toInt) n 0 ∧ WC cI cF cQ o n ev R x w1) (fun w1 t => va_P D vwCl w1 t.heap) A) (XF := fun A => xW D (skW cF o n ev x wD wR wS) (xc eI eI eI (plc (sS x) z.toInt ≠ none) True True) A) (cc := cX3_differs) (maxL := 4) (ret := (some .int)) (by decide) rfl (Nat.le_of_ble_eq_true rfl) ?_
  intro p e s m below meth c A hAe hsz htab hx hb hr hlk hC hP hD hS ls hl
  clear hAe
  have hts := hC.1.2.2.2.2
  have hown : s.vm.findClass RX3 = some m.cls := hC.1.2.2.2.1
  have hml := hC.1.2.2.1
  have hA := hC.2.1
  have hK := hC.2.2.2.1
  have hnm := hC.2.2.2.2.1
  have hnf := hC.2.2.2.2.2.1
  have hiX3 : ∀ w ∈ u_ws RX3 TX3 7, w ∈ wsX3_differs := fun _ h => List.mem_cons_of_mem _ (List.mem_append_left _ (List.mem_append_left _ (List.mem_append_right _ h)))
  have hl : lv_has ls 4 [(0, .ref (o 0)), (1, .int z)] := hl
  have hn9 := hx0.1.2
  have hev9 := hx0.2.1
  have hR9 : dIn n R := hx0.2.2.1
  have hcf : cfin (sc x) := hx0.2.2.2.1
  have hT9 : sT x < 2 ^ 29 := hx0.2.2.2.2.1
  have hL9 : rIn n (sL x) := hx0.2.2.2.2.2.1
  have hS9 : sGood (sS x) := hx0.2.2.2.2.2.2.1
  have hL8 := hL9.1
  have hS8 := hS9.2.1
  have hR8 := hR9.1
  refine lv_aload_n hx hb dX3_differs_0 rfl (lv_at hl 0 rfl) ?_
  refine va_get (D := D) (ci := 3) (v := .ref (o 11)) (C := RX3) (T := TX3) (N := 7) hx hb hts hiX3 hown hK hP 0 rfl rfl 3 (by decide) (hts (.fieldLink RX3 32 "StateKeeper" "snapshots" "LStateKeeper$Snapshots;") (List.mem_of_getElem? (i := 1) rfl)) (fun _ h9 => h9) rfl dX3_differs_1 ?_
  refine lv_aload_n hx hb dX3_differs_4 rfl (lv_at hl 0 rfl) ?_
  refine lv_iload_n hx hb dX3_differs_5 rfl (lv_at hl 1 rfl) ?_
  refine lx_ci (lx_runV (C := RX3) (As := [.int z]) (rest := [.ref (o 11)]) hC hS hl (c_X3_neededSnapshot hS9 hw) (cwV 1 hts gX3_differs_X3_neededSnapshot rfl rfl rfl (by decide +kernel) ⟨Nat.le_of_ble_eq_true rfl, Nat.le_of_ble_eq_true rfl⟩) hP hD (va_recv hK hP (ci := 3) (q0 := 0) rfl rfl) rfl rfl (Nat.le_of_ble_eq_true rfl) dX3_differs_6 ⟨Nat.le_of_ble_eq_true rfl, Nat.le_of_ble_eq_true rfl⟩) hD hS hA (fun E9 ce9 q9 H locs hE9 hP hS h91 h92 h93 => lx_out htab hlk h91 h92 h93 (Or.inl ⟨hE9.1, fun q => q hE9.2⟩) hP hS (Nat.le_of_ble_eq_true rfl) (Nat.le_of_ble_eq_true rfl)) (fun r_1 H locs hpo hP hS => ?_)
  obtain ⟨j, hpl, rfl⟩ := hpo
  obtain ⟨ee, hj, hez, hsg⟩ := plc_get hpl
  have hjl : j < (sS x).length := (List.getElem?_eq_some_iff.mp hj).1
  obtain ⟨a, f1, M, ha, hok, rfl⟩ := id hWS
  have hPc : va_P D vwCl (snapW cI cF cQ o n a (sS x).length f1 M) _ := lz_cutP (sk_pS ((o 0), .inr (3, [.ref (o 1), .ref (o 2), .ref (o 6), .ref (o 11), .int (nI (sT x)), .int (nI ev), .int (sd x)])) ((o 1), .inl (cF, n, .inr (.inr (.inl (sc x))))) wD wR (snapW cI cF cQ o n a (sS x).length f1 M)) hP
  have hDc : va_D A (snapW cI cF cQ o n a (sS x).length f1 M) := lz_cutD (sk_pS ((o 0), .inr (3, [.ref (o 1), .ref (o 2), .ref (o 6), .ref (o 11), .int (nI (sT x)), .int (nI ev), .int (sd x)])) ((o 1), .inl (cF, n, .inr (.inr (.inl (sc x))))) wD wR (snapW cI cF cQ o n a (sS x).length f1 M)) hD
  refine va_csr (lz_runVN (C := RX2) (As := [.int (nI j)]) (rest := []) hC hS hl (c_X2_row (k := (sS x).length) ha (by omega)) ⟨va_cnB 1 hts gX3_differs_X2_row_n122 rfl rfl rfl (hnm (RX3, 122, yX2_row) (by decide)) (hts (.initialized RX2) (List.mem_of_getElem? (i := 11) rfl)) (by decide +kernel) ⟨Nat.le_of_ble_eq_true rfl, Nat.le_of_ble_eq_true rfl⟩, (hts (.instanceMethod yX2_row) (List.mem_of_getElem? (i := 29) rfl)), (hts (.selects RX2 yX2_row yX2_row) (List.mem_of_getElem? (i := 30) rfl))⟩ hPc hDc (va_recv hK hPc (ci := 2) (q0 := 0) rfl rfl) rfl rfl (Nat.le_of_ble_eq_true rfl) dX3_differs_9 ⟨Nat.le_of_ble_eq_true rfl, Nat.le_of_ble_eq_true rfl⟩).run (fun q9 hq9 => ?_)
  subst hq9
  have hlt : (a + j) % 16 < 16 := Nat.mod_lt _ (by decide)
  refine lv_astore_n (lv' := [(2, .ref (o (14 + (a + j) % 16))), (0, .ref (o 0)), (1, .int z)]) hx hb dX3_differs_12 rfl hl (by decide) rfl (fun ls hl => ?_)
  refine lv_iconst (v := nI 0) hx hb dX3_differs_13 (by decide) ?_
  refine lv_istore_n (lv' := [(3, .int (nI 0)), (2, .ref (o (14 + (a + j) % 16))), (0, .ref (o 0)), (1, .int z)]) hx hb dX3_differs_14 rfl hl (by decide) rfl (fun ls hl => ?_)
  have hpn : plc (sS x) z.toInt ≠ none := by rw [hpl]; exact Option.some_ne_none j
  have loop : ∀ (r i : Nat), r + i = n → dif (sc x) ee.2 r i = dif (sc x) (sgt (sS x) z.toInt) n 0 → ∀ ls : Array Slot, lv_has ls 4 [(3, .int (nI i)), (2, .ref (o (14 + (a + j) % 16))), (0, .ref (o 0)), (1, .int z)] → W p l e (rmk 9 8 48) s m [.ref (o 0), .int z].toArray below meth c H locs 1 6 (vx_MQ below (va_Qi (fun (r : Int32) (w1 : va_W) => (plc (sS x) z.toInt ≠ none) ∧ r = dif (sc x) (sgt (sS x) z.toInt) n 0 ∧ WC cI cF cQ o n ev R x w1) (fun w1 t => va_P D vwCl w1 t.heap) A) (xW D (skW cF o n ev x wD wR (snapW cI cF cQ o n a (sS x).length f1 M)) (xc eI eI eI (plc (sS x) z.toInt ≠ none) True True) A) [.ref (o 0), .int z].toArray s 8 48 A) (F0 m 15 ls []) := by
    intro r
    induction r with
    | zero =>
      intro i h1 h2 ls hl
      have hl : lv_has ls 4 [(3, .int (nI i)), (2, .ref (o (14 + (a + j) % 16))), (0, .ref (o 0)), (1, .int z)] := hl
      refine lv_iload_n hx hb dX3_differs_15 rfl (lv_at hl 0 rfl) ?_
      refine lv_aload_n hx hb dX3_differs_16 rfl (lv_at hl 2 rfl) ?_
      refine va_get (D := D) (ci := 3) (v := .ref (o 1)) (C := RX3) (T := TX3) (N := 7) hx hb hts hiX3 hown hK hP 0 rfl rfl 0 (by decide) (hts (.fieldLink RX3 9 "StateKeeper" "cells" "[F") (List.mem_of_getElem? (i := 2) rfl)) (fun _ h9 => h9) rfl dX3_differs_17 ?_
      refine va_alen (v := nI n) hx hb hK hP 1 0 rfl rfl rfl dX3_differs_20 ?_
      refine lv_icmp_ge (tgt := 45) hx hb dX3_differs_21 (by decide) (fun c_2 => ?_) (fun c_2 => absurd (nI_le (by omega) (by omega)) c_2)
      refine lv_iconst (v := -1) hx hb dX3_differs_45 (by decide) ?_
      refine vx_ret (W.widen (k := 8) (n := 48) (Nat.le_of_ble_eq_true rfl) (Nat.le_of_ble_eq_true rfl) ?_)
      exact W.iret hx hb hr (fun t9 ht9 _ => ⟨⟨_, (((o 0), .inr (3, [.ref (o 1), .ref (o 2), .ref (o 6), .ref (o 11), .int (nI (sT x)), .int (nI ev), .int (sd x)])) :: ((o 1), .inl (cF, n, .inr (.inr (.inl (sc x))))) :: (wD ++ (wR ++ (snapW cI cF cQ o n a (sS x).length f1 M)))), rfl, ⟨hpn, h2, hw⟩, by show va_P D vwCl _ t9.heap; rw [ht9]; exact hP⟩, hS.F ht9⟩) hS.2.2 dX3_differs_46
    | succ r ih =>
      intro i h1 h2 ls hl
      have hl : lv_has ls 4 [(3, .int (nI i)), (2, .ref (o (14 + (a + j) % 16))), (0, .ref (o 0)), (1, .int z)] := hl
      refine lv_iload_n hx hb dX3_differs_15 rfl (lv_at hl 0 rfl) ?_
      refine lv_aload_n hx hb dX3_differs_16 rfl (lv_at hl 2 rfl) ?_
      refine va_get (D := D) (ci := 3) (v := .ref (o 1)) (C := RX3) (T := TX3) (N := 7) hx hb hts hiX3 hown hK hP 0 rfl rfl 0 (by decide) (hts (.fieldLink RX3 9 "StateKeeper" "cells" "[F") (List.mem_of_getElem? (i := 2) rfl)) (fun _ h9 => h9) rfl dX3_differs_17 ?_
      refine va_alen (v := nI n) hx hb hK hP 1 0 rfl rfl rfl dX3_differs_20 ?_
      refine lv_icmp_ge (tgt := 45) hx hb dX3_differs_21 (by decide) (fun c1 => absurd c1 (nI_ge (by omega) (by omega))) (fun c1 => ?_)
      refine lv_aload_n hx hb dX3_differs_24 rfl (lv_at hl 2 rfl) ?_
      refine va_get (D := D) (ci := 3) (v := .ref (o 1)) (C := RX3) (T := TX3) (N := 7) hx hb hts hiX3 hown hK hP 0 rfl rfl 0 (by decide) (hts (.fieldLink RX3 9 "StateKeeper" "cells" "[F") (List.mem_of_getElem? (i := 2) rfl)) (fun _ h9 => h9) rfl dX3_differs_25 ?_
      refine lv_iload_n hx hb dX3_differs_28 rfl (lv_at hl 0 rfl) ?_
      refine lz_fald hx hb hK hP 1 0 rfl rfl (by omega) (by omega) dX3_differs_29 ?_
      refine lv_aload_n hx hb dX3_differs_30 rfl (lv_at hl 1 rfl) ?_
      refine lv_iload_n hx hb dX3_differs_31 rfl (lv_at hl 0 rfl) ?_
      refine lz_fald hx hb hK hPc ((a + j) % 16 + 3) 0 (f := M ((a + j) % 16)) (n := n) (by show (rowsL cF o n M)[(a + j) % 16]? = _; exact rows_get hlt) rfl (by omega) (by omega) dX3_differs_32 ?_
      refine lz_f (y := ee.2 i) ((hok j ee hj).2 i (by omega)) ?_
      refine lv_fcmp hx hb dX3_differs_33 ?_
      refine lv_if_eq (tgt := 39) hx hb dX3_differs_34 (by decide) (fun c_3 => ?_) (fun c_3 => ?_)
      · have e9 : dif (sc x) ee.2 (r + 1) i = dif (sc x) ee.2 r (i + 1) := if_pos ((fl_eql _ _).mp c_3)
        refine lv_iinc (v := nI (i + 1)) (lv' := [(3, .int (nI (i + 1))), (2, .ref (o (14 + (a + j) % 16))), (0, .ref (o 0)), (1, .int z)]) hx hb dX3_differs_39 hl (k := 0) rfl (nI_add _ 1) (by decide) rfl (fun ls hl => ?_)
        refine lv_goto (tgt := 15) hx hb dX3_differs_42 (by decide) ?_
        exact ih (i + 1) (by omega) (e9.symm.trans h2) ls (lv_sub hl [0, 1, 2, 3] rfl)
      · have e9 : dif (sc x) ee.2 (r + 1) i = nI i := if_neg (fun q => c_3 ((fl_eql _ _).mpr q))
        refine lv_iload_n hx hb dX3_differs_37 rfl (lv_at hl 0 rfl) ?_
        refine vx_ret (W.widen (k := 8) (n := 48) (Nat.le_of_ble_eq_true rfl) (Nat.le_of_ble_eq_true rfl) ?_)
        exact W.iret hx hb hr (fun t9 ht9 _ => ⟨⟨_, (((o 0), .inr (3, [.ref (o 1), .ref (o 2), .ref (o 6), .ref (o 11), .int (nI (sT x)), .int (nI ev), .int (sd x)])) :: ((o 1), .inl (cF, n, .inr (.inr (.inl (sc x))))) :: (wD ++ (wR ++ (snapW cI cF cQ o n a (sS x).length f1 M)))), rfl, ⟨hpn, e9.symm.trans h2, hw⟩, by show va_P D vwCl _ t9.heap; rw [ht9]; exact hP⟩, hS.F ht9⟩) hS.2.2 dX3_differs_38
  exact loop n 0 (by omega) (by rw [hsg]) ls (lv_sub hl [0, 1, 2, 3] rfl)

set_option maxRecDepth 100000 in
set_option maxHeartbeats 4000000 in
/-- snapshot(k) -/
theorem c_X3_snapshot {z : Int32} (hw : WC cI cF cQ o n ev R x w) (hx0 : Ok n ev R x) (hs : srt (sL x)) : vx_Met l yX3_snapshot wsX3_snapshot (rmk 9 8 48) (pcW l D cI cF cQ aT [.ref (o 0), .int z] w sz) (va_Qi (fun (r : Int32) (w1 : va_W) => (0 ≤ z.toInt ∧ z.toInt < ((sS x).length : Int)) ∧ r = snv (sS x) (tn z) ∧ WC cI cF cQ o n ev R x w1) (fun w1 t => va_P D vwCl w1 t.heap) (va_A w sz)) (xW D w (xc eI eI eI (0 ≤ z.toInt ∧ z.toInt < ((sS x).length : Int)) True True) (va_A w sz)) 8 48 (va_A w sz) := by
  obtain ⟨wD, wR, wS, hWD, hWR, hWS, rfl⟩ := id hw
  refine lz_ofX (Qf := fun A => va_Qi (fun (r : Int32) (w1 : va_W) => (0 ≤ z.toInt ∧ z.toInt < ((sS x).length : Int)) ∧ r = snv (sS x) (tn z) ∧ WC cI cF cQ o n ev R x w1) (fun w1 t => va_P D vwCl w1 t.heap) A) (XF := fun A => xW D (skW cF o n ev x wD wR wS) (xc eI eI eI (0 ≤ z.toInt ∧ z.toInt < ((sS x).length : Int)) True True) A) (cc := cX3_snapshot) (maxL := 2) (ret := (some .int)) (by decide) rfl (Nat.le_of_ble_eq_true rfl) ?_
  intro p e s m below meth c A hAe hsz htab hx hb hr hlk hC hP hD hS ls hl
  clear hAe
  have hts := hC.1.2.2.2.2
  have hown : s.vm.findClass RX3 = some m.cls := hC.1.2.2.2.1
  have hml := hC.1.2.2.1
  have hA := hC.2.1
  have hK := hC.2.2.2.1
  have hnm := hC.2.2.2.2.1
  have hnf := hC.2.2.2.2.2.1
  have hiX3 : ∀ w ∈ u_ws RX3 TX3 7, w ∈ wsX3_snapshot := fun _ h => List.mem_cons_of_mem _ (List.mem_append_left _ (List.mem_append_left _ (List.mem_append_right _ h)))
  have hiX2 : ∀ w ∈ u_ws RX2 TX2 4, w ∈ wsX3_snapshot := fun _ h => List.mem_cons_of_mem _ (List.mem_append_left _ (List.mem_append_right _ h))
  have hl : lv_has ls 2 [(0, .ref (o 0)), (1, .int z)] := hl
  have hn9 := hx0.1.2
  have hev9 := hx0.2.1
  have hR9 : dIn n R := hx0.2.2.1
  have hcf : cfin (sc x) := hx0.2.2.2.1
  have hT9 : sT x < 2 ^ 29 := hx0.2.2.2.2.1
  have hL9 : rIn n (sL x) := hx0.2.2.2.2.2.1
  have hS9 : sGood (sS x) := hx0.2.2.2.2.2.2.1
  have hL8 := hL9.1
  have hS8 := hS9.2.1
  have hR8 := hR9.1
  obtain ⟨a, f1, M, ha, hok, rfl⟩ := id hWS
  refine lv_iload_n hx hb dX3_snapshot_0 rfl (lv_at hl 1 rfl) ?_
  refine lv_if_lt (tgt := 15) hx hb dX3_snapshot_1 (by decide) (fun c_1 => ?_) (fun c_1 => ?_)
  · exact lx_thI (text := "no such snapshot") (is := 128) (by decide) hC hx hb htab hlk hl hP hS (hts (.classLink RX3 126 "java/lang/IndexOutOfBoundsException") (List.mem_of_getElem? (i := 1) rfl)) (hts (.initialized "java/lang/IndexOutOfBoundsException") (List.mem_of_getElem? (i := 2) rfl)) (fun _ h9 => List.mem_cons_of_mem _ (List.mem_append_right _ h9)) dX3_snapshot_15 dX3_snapshot_18 dX3_snapshot_19 dX3_snapshot_21 dX3_snapshot_24 (Nat.le_of_ble_eq_true rfl) (Nat.le_of_ble_eq_true rfl) (Nat.le_of_ble_eq_true rfl) (Nat.le_of_ble_eq_true rfl) (Or.inl ⟨rfl, fun q => absurd (iz_lt0.mp c_1) (by omega)⟩) (Nat.le_of_ble_eq_true rfl) (Nat.le_of_ble_eq_true rfl)
  · have h0 : 0 ≤ z.toInt := by have := mt iz_lt0.mpr c_1; omega
    refine lv_iload_n hx hb dX3_snapshot_4 rfl (lv_at hl 1 rfl) ?_
    refine lv_aload_n hx hb dX3_snapshot_5 rfl (lv_at hl 0 rfl) ?_
    refine va_get (D := D) (ci := 3) (v := .ref (o 11)) (C := RX3) (T := TX3) (N := 7) hx hb hts hiX3 hown hK hP 0 rfl rfl 3 (by decide) (hts (.fieldLink RX3 32 "StateKeeper" "snapshots" "LStateKeeper$Snapshots;") (List.mem_of_getElem? (i := 3) rfl)) (fun _ h9 => h9) rfl dX3_snapshot_6 ?_
    have hPc : va_P D vwCl (snapW cI cF cQ o n a (sS x).length f1 M) _ := lz_cutP (sk_pS ((o 0), .inr (3, [.ref (o 1), .ref (o 2), .ref (o 6), .ref (o 11), .int (nI (sT x)), .int (nI ev), .int (sd x)])) ((o 1), .inl (cF, n, .inr (.inr (.inl (sc x))))) wD wR (snapW cI cF cQ o n a (sS x).length f1 M)) hP
    have hDc : va_D A (snapW cI cF cQ o n a (sS x).length f1 M) := lz_cutD (sk_pS ((o 0), .inr (3, [.ref (o 1), .ref (o 2), .ref (o 6), .ref (o 11), .int (nI (sT x)), .int (nI ev), .int (sd x)])) ((o 1), .inl (cF, n, .inr (.inr (.inl (sc x))))) wD wR (snapW cI cF cQ o n a (sS x).length f1 M)) hD
    refine va_getN (D := D) (ci := 2) (v := .int (nI (sS x).length)) (C := RX2) (T := TX2) (N := 4) (host := "StateKeeper") hx hb hts hiX2 hown hK hPc 0 rfl rfl 3 (by decide) (va_Nw.use rfl (hnf (RX3, 100, RX2, "size", "I") (by decide))) (fun _ h9 => h9) rfl dX3_snapshot_9 ?_
    refine lv_icmp_lt (tgt := 25) hx hb dX3_snapshot_12 (by decide) (fun c_2 => ?_) (fun c_2 => ?_)
    · have h1 := (iz_lt_r (by omega)).mp c_2
      obtain ⟨u, hu8, rfl, hu⟩ := iz_nat h0
      have hl : lv_has ls 2 [(0, .ref (o 0)), (1, .int (nI u))] := hl
      obtain ⟨ee, hj⟩ : ∃ ee, (sS x)[u]? = some ee := ⟨_, List.getElem?_eq_getElem (by omega)⟩
      refine lv_aload_n hx hb dX3_snapshot_25 rfl (lv_at hl 0 rfl) ?_
      refine va_get (D := D) (ci := 3) (v := .ref (o 11)) (C := RX3) (T := TX3) (N := 7) hx hb hts hiX3 hown hK hP 0 rfl rfl 3 (by decide) (hts (.fieldLink RX3 32 "StateKeeper" "snapshots" "LStateKeeper$Snapshots;") (List.mem_of_getElem? (i := 3) rfl)) (fun _ h9 => h9) rfl dX3_snapshot_26 ?_
      refine lv_iload_n hx hb dX3_snapshot_29 rfl (lv_at hl 1 rfl) ?_
      have hPc : va_P D vwCl (snapW cI cF cQ o n a (sS x).length f1 M) _ := lz_cutP (sk_pS ((o 0), .inr (3, [.ref (o 1), .ref (o 2), .ref (o 6), .ref (o 11), .int (nI (sT x)), .int (nI ev), .int (sd x)])) ((o 1), .inl (cF, n, .inr (.inr (.inl (sc x))))) wD wR (snapW cI cF cQ o n a (sS x).length f1 M)) hP
      have hDc : va_D A (snapW cI cF cQ o n a (sS x).length f1 M) := lz_cutD (sk_pS ((o 0), .inr (3, [.ref (o 1), .ref (o 2), .ref (o 6), .ref (o 11), .int (nI (sT x)), .int (nI ev), .int (sd x)])) ((o 1), .inl (cF, n, .inr (.inr (.inl (sc x))))) wD wR (snapW cI cF cQ o n a (sS x).length f1 M)) hD
      refine vp_callSi (lz_runVN (C := RX2) (As := [.int (nI u)]) (rest := []) hC hS hl (c_X2_stepOf (k := (sS x).length) ha (by omega)) ⟨va_cnB 1 hts gX3_snapshot_X2_stepOf_n131 rfl rfl rfl (hnm (RX3, 131, yX2_stepOf) (by decide)) (hts (.initialized RX2) (List.mem_of_getElem? (i := 5) rfl)) (by decide +kernel) ⟨Nat.le_of_ble_eq_true rfl, Nat.le_of_ble_eq_true rfl⟩, (hts (.instanceMethod yX2_stepOf) (List.mem_of_getElem? (i := 4) rfl)), (hts (.selects RX2 yX2_stepOf yX2_stepOf) (List.mem_of_getElem? (i := 6) rfl))⟩ hPc hDc (va_recv hK hPc (ci := 2) (q0 := 0) rfl rfl) rfl rfl (Nat.le_of_ble_eq_true rfl) dX3_snapshot_30 ⟨Nat.le_of_ble_eq_true rfl, Nat.le_of_ble_eq_true rfl⟩).run (fun r_3 er_3 => ?_)
      subst er_3
      refine lz_i (y := nI ee.1) (hok u ee hj).1 ?_
      refine vx_ret (W.widen (k := 8) (n := 48) (Nat.le_of_ble_eq_true rfl) (Nat.le_of_ble_eq_true rfl) ?_)
      exact W.iret hx hb hr (fun t9 ht9 _ => ⟨⟨_, (((o 0), .inr (3, [.ref (o 1), .ref (o 2), .ref (o 6), .ref (o 11), .int (nI (sT x)), .int (nI ev), .int (sd x)])) :: ((o 1), .inl (cF, n, .inr (.inr (.inl (sc x))))) :: (wD ++ (wR ++ (snapW cI cF cQ o n a (sS x).length f1 M)))), rfl, ⟨⟨h0, h1⟩, by unfold snv; rw [tn_nI hu8, hj], hw⟩, by show va_P D vwCl _ t9.heap; rw [ht9]; exact hP⟩, hS.F ht9⟩) hS.2.2 dX3_snapshot_33
    · exact lx_thI (text := "no such snapshot") (is := 128) (by decide) hC hx hb htab hlk hl hP hS (hts (.classLink RX3 126 "java/lang/IndexOutOfBoundsException") (List.mem_of_getElem? (i := 1) rfl)) (hts (.initialized "java/lang/IndexOutOfBoundsException") (List.mem_of_getElem? (i := 2) rfl)) (fun _ h9 => List.mem_cons_of_mem _ (List.mem_append_right _ h9)) dX3_snapshot_15 dX3_snapshot_18 dX3_snapshot_19 dX3_snapshot_21 dX3_snapshot_24 (Nat.le_of_ble_eq_true rfl) (Nat.le_of_ble_eq_true rfl) (Nat.le_of_ble_eq_true rfl) (Nat.le_of_ble_eq_true rfl) (Or.inl ⟨rfl, fun q => c_2 ((iz_lt_r (by omega)).mpr q.2)⟩) (Nat.le_of_ble_eq_true rfl) (Nat.le_of_ble_eq_true rfl)

set_option maxRecDepth 100000 in
set_option maxHeartbeats 4000000 in
/-- record(step, k, what) -/
theorem c_X3_record {z q i : Int32} (hw : WC cI cF cQ o n ev R x w) (hx0 : Ok n ev R x) (hs : srt (sL x)) : vx_Met l yX3_record wsX3_record (rmk 9 8 48) (pcW l D cI cF cQ aT [.ref (o 0), .int z, .int q, .int i] w sz) (va_Qi (fun (r : Int32) (w1 : va_W) => ((0 ≤ q.toInt ∧ q.toInt < (cq (sL x) z.toInt : Int)) ∧ (i.toInt = 0 ∨ i.toInt = 1)) ∧ r = (if i.toInt = 0 then nI (rget (sL x) z.toInt (tn q)).2.1 else nI (rget (sL x) z.toInt (tn q)).2.2.1) ∧ WC cI cF cQ o n ev R x w1) (fun w1 t => va_P D vwCl w1 t.heap) (va_A w sz)) (xW D w (xc eI eI eI ((0 ≤ q.toInt ∧ q.toInt < (cq (sL x) z.toInt : Int)) ∧ (i.toInt = 0 ∨ i.toInt = 1)) True True) (va_A w sz)) 8 48 (va_A w sz) := by
  obtain ⟨wD, wR, wS, hWD, hWR, hWS, rfl⟩ := id hw
  refine lz_ofX (Qf := fun A => va_Qi (fun (r : Int32) (w1 : va_W) => ((0 ≤ q.toInt ∧ q.toInt < (cq (sL x) z.toInt : Int)) ∧ (i.toInt = 0 ∨ i.toInt = 1)) ∧ r = (if i.toInt = 0 then nI (rget (sL x) z.toInt (tn q)).2.1 else nI (rget (sL x) z.toInt (tn q)).2.2.1) ∧ WC cI cF cQ o n ev R x w1) (fun w1 t => va_P D vwCl w1 t.heap) A) (XF := fun A => xW D (skW cF o n ev x wD wR wS) (xc eI eI eI ((0 ≤ q.toInt ∧ q.toInt < (cq (sL x) z.toInt : Int)) ∧ (i.toInt = 0 ∨ i.toInt = 1)) True True) A) (cc := cX3_record) (maxL := 5) (ret := (some .int)) (by decide) rfl (Nat.le_of_ble_eq_true rfl) ?_
  intro p e s m below meth c A hAe hsz htab hx hb hr hlk hC hP hD hS ls hl
  clear hAe
  have hts := hC.1.2.2.2.2
  have hown : s.vm.findClass RX3 = some m.cls := hC.1.2.2.2.1
  have hml := hC.1.2.2.1
  have hA := hC.2.1
  have hK := hC.2.2.2.1
  have hnm := hC.2.2.2.2.1
  have hnf := hC.2.2.2.2.2.1
  have hiX3 : ∀ w ∈ u_ws RX3 TX3 7, w ∈ wsX3_record := fun _ h => List.mem_cons_of_mem _ (List.mem_append_left _ (List.mem_append_left _ (List.mem_append_right _ h)))
  have hiX1 : ∀ w ∈ u_ws RX1 TX1 5, w ∈ wsX3_record := fun _ h => List.mem_cons_of_mem _ (List.mem_append_left _ (List.mem_append_right _ h))
  have hl : lv_has ls 5 [(0, .ref (o 0)), (1, .int z), (2, .int q), (3, .int i)] := hl
  have hn9 := hx0.1.2
  have hev9 := hx0.2.1
  have hR9 : dIn n R := hx0.2.2.1
  have hcf : cfin (sc x) := hx0.2.2.2.1
  have hT9 : sT x < 2 ^ 29 := hx0.2.2.2.2.1
  have hL9 : rIn n (sL x) := hx0.2.2.2.2.2.1
  have hS9 : sGood (sS x) := hx0.2.2.2.2.2.2.1
  have hL8 := hL9.1
  have hS8 := hS9.2.1
  have hR8 := hR9.1
  refine lv_aload_n hx hb dX3_record_0 rfl (lv_at hl 0 rfl) ?_
  refine lv_iload_n hx hb dX3_record_1 rfl (lv_at hl 1 rfl) ?_
  refine lv_iload_n hx hb dX3_record_2 rfl (lv_at hl 2 rfl) ?_
  refine lx_ci (lx_runV (C := RX3) (As := [.int z, .int q]) (rest := []) hC hS hl (c_X3_neededPlace hs hL9 hw) (cwV 2 hts gX3_record_X3_neededPlace rfl rfl rfl (by decide +kernel) ⟨Nat.le_of_ble_eq_true rfl, Nat.le_of_ble_eq_true rfl⟩) hP hD (va_recv hK hP (ci := 3) (q0 := 0) rfl rfl) rfl rfl (Nat.le_of_ble_eq_true rfl) dX3_record_3 ⟨Nat.le_of_ble_eq_true rfl, Nat.le_of_ble_eq_true rfl⟩) hD hS hA (fun E9 ce9 q9 H locs hE9 hP hS h91 h92 h93 => lx_out htab hlk h91 h92 h93 (Or.inl ⟨hE9.1, fun q => hE9.2 q.1⟩) hP hS (Nat.le_of_ble_eq_true rfl) (Nat.le_of_ble_eq_true rfl)) (fun r_1 H locs hpo hP hS => ?_)
  obtain ⟨hp1, rfl⟩ := hpo
  have hg := rget_srt hs (z := z.toInt) (k := tn q) (by show q.toInt.toNat < _; omega)
  have hgl : cb (sL x) z.toInt + q.toInt.toNat < (sL x).length := (List.getElem?_eq_some_iff.mp hg).1
  obtain ⟨g1, g2, g3, g4, hrec, rfl⟩ := id hWR
  refine lv_istore (lv' := [(4, .int (nI (cb (sL x) z.toInt + q.toInt.toNat))), (0, .ref (o 0)), (1, .int z), (2, .int q), (3, .int i)]) hx hb dX3_record_6 hl (by decide) rfl (fun ls hl => ?_)
  refine lv_iload_n hx hb dX3_record_8 rfl (lv_at hl 4 rfl) ?_
  by_cases hw0 : i.toInt = 0
  · refine lv_lookup (tgt := 36) (off := 27) hx hb dX3_record_9 (by decide) (by rw [hw0]; rfl) (by decide) ?_
    refine lv_aload_n hx hb dX3_record_36 rfl (lv_at hl 1 rfl) ?_
    refine va_get (D := D) (ci := 3) (v := .ref (o 6)) (C := RX3) (T := TX3) (N := 7) hx hb hts hiX3 hown hK hP 0 rfl rfl 2 (by decide) (hts (.fieldLink RX3 23 "StateKeeper" "inputRecord" "LStateKeeper$InputRecord;") (List.mem_of_getElem? (i := 3) rfl)) (fun _ h9 => h9) rfl dX3_record_37 ?_
    have hPc : va_P D vwCl (recW cI cF o (sL x).length g1 g2 g3 g4) _ := lz_cutP (sk_pR ((o 0), .inr (3, [.ref (o 1), .ref (o 2), .ref (o 6), .ref (o 11), .int (nI (sT x)), .int (nI ev), .int (sd x)])) ((o 1), .inl (cF, n, .inr (.inr (.inl (sc x))))) wD (recW cI cF o (sL x).length g1 g2 g3 g4) wS) hP
    have hDc : va_D A (recW cI cF o (sL x).length g1 g2 g3 g4) := lz_cutD (sk_pR ((o 0), .inr (3, [.ref (o 1), .ref (o 2), .ref (o 6), .ref (o 11), .int (nI (sT x)), .int (nI ev), .int (sd x)])) ((o 1), .inl (cF, n, .inr (.inr (.inl (sc x))))) wD (recW cI cF o (sL x).length g1 g2 g3 g4) wS) hD
    refine va_getN (D := D) (ci := 1) (v := .ref (o 8)) (C := RX1) (T := TX1) (N := 5) (host := "StateKeeper") hx hb hts hiX1 hown hK hPc 0 rfl rfl 1 (by decide) (va_Nw.use rfl (hnf (RX3, 138, RX1, "targets", "[I") (by decide))) (fun _ h9 => h9) rfl dX3_record_40 ?_
    refine lv_iload hx hb dX3_record_43 (lv_at hl 0 rfl) ?_
    refine lz_iald hx hb hK hPc 2 1 rfl rfl (by omega) (by omega) dX3_record_45 ?_
    refine lz_i (y := nI (rget (sL x) z.toInt (tn q)).2.1) (hrec _ _ hg).2.1 ?_
    refine vx_ret (W.widen (k := 8) (n := 48) (Nat.le_of_ble_eq_true rfl) (Nat.le_of_ble_eq_true rfl) ?_)
    exact W.iret hx hb hr (fun t9 ht9 _ => ⟨⟨_, (((o 0), .inr (3, [.ref (o 1), .ref (o 2), .ref (o 6), .ref (o 11), .int (nI (sT x)), .int (nI ev), .int (sd x)])) :: ((o 1), .inl (cF, n, .inr (.inr (.inl (sc x))))) :: (wD ++ ((recW cI cF o (sL x).length g1 g2 g3 g4) ++ wS))), rfl, ⟨⟨hp1, Or.inl hw0⟩, by rw [if_pos hw0], hw⟩, by show va_P D vwCl _ t9.heap; rw [ht9]; exact hP⟩, hS.F ht9⟩) hS.2.2 dX3_record_46
  by_cases hw1 : i.toInt = 1
  · refine lv_lookup (tgt := 47) (off := 38) hx hb dX3_record_9 (by decide) (by rw [hw1]; rfl) (by decide) ?_
    refine lv_aload_n hx hb dX3_record_47 rfl (lv_at hl 1 rfl) ?_
    refine va_get (D := D) (ci := 3) (v := .ref (o 6)) (C := RX3) (T := TX3) (N := 7) hx hb hts hiX3 hown hK hP 0 rfl rfl 2 (by decide) (hts (.fieldLink RX3 23 "StateKeeper" "inputRecord" "LStateKeeper$InputRecord;") (List.mem_of_getElem? (i := 3) rfl)) (fun _ h9 => h9) rfl dX3_record_48 ?_
    have hPc : va_P D vwCl (recW cI cF o (sL x).length g1 g2 g3 g4) _ := lz_cutP (sk_pR ((o 0), .inr (3, [.ref (o 1), .ref (o 2), .ref (o 6), .ref (o 11), .int (nI (sT x)), .int (nI ev), .int (sd x)])) ((o 1), .inl (cF, n, .inr (.inr (.inl (sc x))))) wD (recW cI cF o (sL x).length g1 g2 g3 g4) wS) hP
    have hDc : va_D A (recW cI cF o (sL x).length g1 g2 g3 g4) := lz_cutD (sk_pR ((o 0), .inr (3, [.ref (o 1), .ref (o 2), .ref (o 6), .ref (o 11), .int (nI (sT x)), .int (nI ev), .int (sd x)])) ((o 1), .inl (cF, n, .inr (.inr (.inl (sc x))))) wD (recW cI cF o (sL x).length g1 g2 g3 g4) wS) hD
    refine va_getN (D := D) (ci := 1) (v := .ref (o 9)) (C := RX1) (T := TX1) (N := 5) (host := "StateKeeper") hx hb hts hiX1 hown hK hPc 0 rfl rfl 2 (by decide) (va_Nw.use rfl (hnf (RX3, 142, RX1, "ways", "[I") (by decide))) (fun _ h9 => h9) rfl dX3_record_51 ?_
    refine lv_iload hx hb dX3_record_54 (lv_at hl 0 rfl) ?_
    refine lz_iald hx hb hK hPc 3 1 rfl rfl (by omega) (by omega) dX3_record_56 ?_
    refine lz_i (y := nI (rget (sL x) z.toInt (tn q)).2.2.1) (hrec _ _ hg).2.2.1 ?_
    refine vx_ret (W.widen (k := 8) (n := 48) (Nat.le_of_ble_eq_true rfl) (Nat.le_of_ble_eq_true rfl) ?_)
    exact W.iret hx hb hr (fun t9 ht9 _ => ⟨⟨_, (((o 0), .inr (3, [.ref (o 1), .ref (o 2), .ref (o 6), .ref (o 11), .int (nI (sT x)), .int (nI ev), .int (sd x)])) :: ((o 1), .inl (cF, n, .inr (.inr (.inl (sc x))))) :: (wD ++ ((recW cI cF o (sL x).length g1 g2 g3 g4) ++ wS))), rfl, ⟨⟨hp1, Or.inr hw1⟩, by rw [if_neg hw0], hw⟩, by show va_P D vwCl _ t9.heap; rw [ht9]; exact hP⟩, hS.F ht9⟩) hS.2.2 dX3_record_57
  refine lv_lookup (tgt := 58) (off := 49) hx hb dX3_record_9 (by decide) (by show (if (0 : Int) = i.toInt then (27 : Int) else if (1 : Int) = i.toInt then 38 else 49) = 49; rw [if_neg (fun q9 => hw0 q9.symm), if_neg (fun q9 => hw1 q9.symm)]) (by decide) ?_
  exact lx_thI (text := "what is not 0 .. 1") (is := 145) (by decide) hC hx hb htab hlk hl hP hS (hts (.classLink RX3 126 "java/lang/IndexOutOfBoundsException") (List.mem_of_getElem? (i := 1) rfl)) (hts (.initialized "java/lang/IndexOutOfBoundsException") (List.mem_of_getElem? (i := 2) rfl)) (fun _ h9 => List.mem_cons_of_mem _ (List.mem_append_right _ h9)) dX3_record_58 dX3_record_61 dX3_record_62 dX3_record_64 dX3_record_67 (Nat.le_of_ble_eq_true rfl) (Nat.le_of_ble_eq_true rfl) (Nat.le_of_ble_eq_true rfl) (Nat.le_of_ble_eq_true rfl) (Or.inl ⟨rfl, fun q9 => q9.2.elim hw0 hw1⟩) (Nat.le_of_ble_eq_true rfl) (Nat.le_of_ble_eq_true rfl)

set_option maxRecDepth 100000 in
set_option maxHeartbeats 4000000 in
/-- recorded(step, k) -/
theorem c_X3_recorded {z q : Int32} (hw : WC cI cF cQ o n ev R x w) (hx0 : Ok n ev R x) (hs : srt (sL x)) : vx_Met l yX3_recorded wsX3_recorded (rmk 9 8 48) (pcW l D cI cF cQ aT [.ref (o 0), .int z, .int q] w sz) (va_Qf (fun (r : UInt32) (w1 : va_W) => (0 ≤ q.toInt ∧ q.toInt < (cq (sL x) z.toInt : Int)) ∧ r = (rget (sL x) z.toInt (tn q)).2.2.2 ∧ WC cI cF cQ o n ev R x w1) (fun w1 t => va_P D vwCl w1 t.heap) (va_A w sz)) (xW D w (xc eI eI eI (0 ≤ q.toInt ∧ q.toInt < (cq (sL x) z.toInt : Int)) True True) (va_A w sz)) 8 48 (va_A w sz) := by
  obtain ⟨wD, wR, wS, hWD, hWR, hWS, rfl⟩ := id hw
  refine lz_ofX (Qf := fun A => va_Qf (fun (r : UInt32) (w1 : va_W) => (0 ≤ q.toInt ∧ q.toInt < (cq (sL x) z.toInt : Int)) ∧ r = (rget (sL x) z.toInt (tn q)).2.2.2 ∧ WC cI cF cQ o n ev R x w1) (fun w1 t => va_P D vwCl w1 t.heap) A) (XF := fun A => xW D (skW cF o n ev x wD wR wS) (xc eI eI eI (0 ≤ q.toInt ∧ q.toInt < (cq (sL x) z.toInt : Int)) True True) A) (cc := cX3_recorded) (maxL := 3) (ret := (some .float)) (by decide) rfl (Nat.le_of_ble_eq_true rfl) ?_
  intro p e s m below meth c A hAe hsz htab hx hb hr hlk hC hP hD hS ls hl
  clear hAe
  have hts := hC.1.2.2.2.2
  have hown : s.vm.findClass RX3 = some m.cls := hC.1.2.2.2.1
  have hml := hC.1.2.2.1
  have hA := hC.2.1
  have hK := hC.2.2.2.1
  have hnm := hC.2.2.2.2.1
  have hnf := hC.2.2.2.2.2.1
  have hiX3 : ∀ w ∈ u_ws RX3 TX3 7, w ∈ wsX3_recorded := fun _ h => List.mem_cons_of_mem _ (List.mem_append_left _ (List.mem_append_left _ (List.mem_append_right _ h)))
  have hiX1 : ∀ w ∈ u_ws RX1 TX1 5, w ∈ wsX3_recorded := fun _ h => List.mem_cons_of_mem _ (List.mem_append_left _ (List.mem_append_right _ h))
  have hl : lv_has ls 3 [(0, .ref (o 0)), (1, .int z), (2, .int q)] := hl
  have hn9 := hx0.1.2
  have hev9 := hx0.2.1
  have hR9 : dIn n R := hx0.2.2.1
  have hcf : cfin (sc x) := hx0.2.2.2.1
  have hT9 : sT x < 2 ^ 29 := hx0.2.2.2.2.1
  have hL9 : rIn n (sL x) := hx0.2.2.2.2.2.1
  have hS9 : sGood (sS x) := hx0.2.2.2.2.2.2.1
  have hL8 := hL9.1
  have hS8 := hS9.2.1
  have hR8 := hR9.1
  obtain ⟨g1, g2, g3, g4, hrec, rfl⟩ := id hWR
  refine lv_aload_n hx hb dX3_recorded_0 rfl (lv_at hl 0 rfl) ?_
  refine va_get (D := D) (ci := 3) (v := .ref (o 6)) (C := RX3) (T := TX3) (N := 7) hx hb hts hiX3 hown hK hP 0 rfl rfl 2 (by decide) (hts (.fieldLink RX3 23 "StateKeeper" "inputRecord" "LStateKeeper$InputRecord;") (List.mem_of_getElem? (i := 1) rfl)) (fun _ h9 => h9) rfl dX3_recorded_1 ?_
  have hPc : va_P D vwCl (recW cI cF o (sL x).length g1 g2 g3 g4) _ := lz_cutP (sk_pR ((o 0), .inr (3, [.ref (o 1), .ref (o 2), .ref (o 6), .ref (o 11), .int (nI (sT x)), .int (nI ev), .int (sd x)])) ((o 1), .inl (cF, n, .inr (.inr (.inl (sc x))))) wD (recW cI cF o (sL x).length g1 g2 g3 g4) wS) hP
  have hDc : va_D A (recW cI cF o (sL x).length g1 g2 g3 g4) := lz_cutD (sk_pR ((o 0), .inr (3, [.ref (o 1), .ref (o 2), .ref (o 6), .ref (o 11), .int (nI (sT x)), .int (nI ev), .int (sd x)])) ((o 1), .inl (cF, n, .inr (.inr (.inl (sc x))))) wD (recW cI cF o (sL x).length g1 g2 g3 g4) wS) hD
  refine va_getN (D := D) (ci := 1) (v := .ref (o 10)) (C := RX1) (T := TX1) (N := 5) (host := "StateKeeper") hx hb hts hiX1 hown hK hPc 0 rfl rfl 3 (by decide) (va_Nw.use rfl (hnf (RX3, 147, RX1, "numbers", "[F") (by decide))) (fun _ h9 => h9) rfl dX3_recorded_4 ?_
  refine lv_aload_n hx hb dX3_recorded_7 rfl (lv_at hl 0 rfl) ?_
  refine lv_iload_n hx hb dX3_recorded_8 rfl (lv_at hl 1 rfl) ?_
  refine lv_iload_n hx hb dX3_recorded_9 rfl (lv_at hl 2 rfl) ?_
  refine lx_ci (lx_runV (C := RX3) (As := [.int z, .int q]) (rest := [.ref (o 10)]) hC hS hl (c_X3_neededPlace hs hL9 hw) (cwV 2 hts gX3_recorded_X3_neededPlace rfl rfl rfl (by decide +kernel) ⟨Nat.le_of_ble_eq_true rfl, Nat.le_of_ble_eq_true rfl⟩) hP hD (va_recv hK hP (ci := 3) (q0 := 0) rfl rfl) rfl rfl (Nat.le_of_ble_eq_true rfl) dX3_recorded_10 ⟨Nat.le_of_ble_eq_true rfl, Nat.le_of_ble_eq_true rfl⟩) hD hS hA (fun E9 ce9 q9 H locs hE9 hP hS h91 h92 h93 => lx_out htab hlk h91 h92 h93 (Or.inl ⟨hE9.1, hE9.2⟩) hP hS (Nat.le_of_ble_eq_true rfl) (Nat.le_of_ble_eq_true rfl)) (fun r_1 H locs hpo hP hS => ?_)
  obtain ⟨hp1, rfl⟩ := hpo
  have hg := rget_srt hs (z := z.toInt) (k := tn q) (by show q.toInt.toNat < _; omega)
  have hgl : cb (sL x) z.toInt + q.toInt.toNat < (sL x).length := (List.getElem?_eq_some_iff.mp hg).1
  have hPc : va_P D vwCl (recW cI cF o (sL x).length g1 g2 g3 g4) _ := lz_cutP (sk_pR ((o 0), .inr (3, [.ref (o 1), .ref (o 2), .ref (o 6), .ref (o 11), .int (nI (sT x)), .int (nI ev), .int (sd x)])) ((o 1), .inl (cF, n, .inr (.inr (.inl (sc x))))) wD (recW cI cF o (sL x).length g1 g2 g3 g4) wS) hP
  have hDc : va_D A (recW cI cF o (sL x).length g1 g2 g3 g4) := lz_cutD (sk_pR ((o 0), .inr (3, [.ref (o 1), .ref (o 2), .ref (o 6), .ref (o 11), .int (nI (sT x)), .int (nI ev), .int (sd x)])) ((o 1), .inl (cF, n, .inr (.inr (.inl (sc x))))) wD (recW cI cF o (sL x).length g1 g2 g3 g4) wS) hD
  refine lz_fald hx hb hK hPc 4 0 rfl rfl (by omega) (by omega) dX3_recorded_13 ?_
  refine lz_f (y := (rget (sL x) z.toInt (tn q)).2.2.2) (hrec _ _ hg).2.2.2 ?_
  refine vx_ret (W.widen (k := 8) (n := 48) (Nat.le_of_ble_eq_true rfl) (Nat.le_of_ble_eq_true rfl) ?_)
  exact W.fret hx hb hr (fun t9 ht9 _ => ⟨⟨_, (((o 0), .inr (3, [.ref (o 1), .ref (o 2), .ref (o 6), .ref (o 11), .int (nI (sT x)), .int (nI ev), .int (sd x)])) :: ((o 1), .inl (cF, n, .inr (.inr (.inl (sc x))))) :: (wD ++ ((recW cI cF o (sL x).length g1 g2 g3 g4) ++ wS))), rfl, ⟨hp1, rfl, hw⟩, by show va_P D vwCl _ t9.heap; rw [ht9]; exact hP⟩, hS.F ht9⟩) hS.2.2 dX3_recorded_14

set_option maxRecDepth 100000 in
set_option maxHeartbeats 4000000 in
/-- count(what) -/
theorem c_X3_count {z : Int32} (hw : WC cI cF cQ o n ev R x w) (hx0 : Ok n ev R x) (hs : srt (sL x)) : vx_Met l yX3_count wsX3_count (rmk 9 8 48) (pcW l D cI cF cQ aT [.ref (o 0), .int z] w sz) (va_Qi (fun (r : Int32) (w1 : va_W) => (0 ≤ z.toInt ∧ z.toInt ≤ 7) ∧ r = ctv n R x (tn z) ∧ WC cI cF cQ o n ev R x w1) (fun w1 t => va_P D vwCl w1 t.heap) (va_A w sz)) (xW D w (xc eI eI eI (0 ≤ z.toInt ∧ z.toInt ≤ 7) True True) (va_A w sz)) 8 48 (va_A w sz) := by
  obtain ⟨wD, wR, wS, hWD, hWR, hWS, rfl⟩ := id hw
  refine lz_ofX (Qf := fun A => va_Qi (fun (r : Int32) (w1 : va_W) => (0 ≤ z.toInt ∧ z.toInt ≤ 7) ∧ r = ctv n R x (tn z) ∧ WC cI cF cQ o n ev R x w1) (fun w1 t => va_P D vwCl w1 t.heap) A) (XF := fun A => xW D (skW cF o n ev x wD wR wS) (xc eI eI eI (0 ≤ z.toInt ∧ z.toInt ≤ 7) True True) A) (cc := cX3_count) (maxL := 2) (ret := (some .int)) (by decide) rfl (Nat.le_of_ble_eq_true rfl) ?_
  intro p e s m below meth c A hAe hsz htab hx hb hr hlk hC hP hD hS ls hl
  clear hAe
  have hts := hC.1.2.2.2.2
  have hown : s.vm.findClass RX3 = some m.cls := hC.1.2.2.2.1
  have hml := hC.1.2.2.1
  have hA := hC.2.1
  have hK := hC.2.2.2.1
  have hnm := hC.2.2.2.2.1
  have hnf := hC.2.2.2.2.2.1
  have hiX3 : ∀ w ∈ u_ws RX3 TX3 7, w ∈ wsX3_count := fun _ h => List.mem_cons_of_mem _ (List.mem_append_left _ (List.mem_append_left _ (List.mem_append_left _ (List.mem_append_left _ (List.mem_append_right _ h)))))
  have hiX2 : ∀ w ∈ u_ws RX2 TX2 4, w ∈ wsX3_count := fun _ h => List.mem_cons_of_mem _ (List.mem_append_left _ (List.mem_append_left _ (List.mem_append_left _ (List.mem_append_right _ h))))
  have hiX1 : ∀ w ∈ u_ws RX1 TX1 5, w ∈ wsX3_count := fun _ h => List.mem_cons_of_mem _ (List.mem_append_left _ (List.mem_append_left _ (List.mem_append_right _ h)))
  have hiX0 : ∀ w ∈ u_ws RX0 TX0 4, w ∈ wsX3_count := fun _ h => List.mem_cons_of_mem _ (List.mem_append_left _ (List.mem_append_right _ h))
  have hl : lv_has ls 2 [(0, .ref (o 0)), (1, .int z)] := hl
  have hn9 := hx0.1.2
  have hev9 := hx0.2.1
  have hR9 : dIn n R := hx0.2.2.1
  have hcf : cfin (sc x) := hx0.2.2.2.1
  have hT9 : sT x < 2 ^ 29 := hx0.2.2.2.2.1
  have hL9 : rIn n (sL x) := hx0.2.2.2.2.2.1
  have hS9 : sGood (sS x) := hx0.2.2.2.2.2.2.1
  have hL8 := hL9.1
  have hS8 := hS9.2.1
  have hR8 := hR9.1
  obtain ⟨g1, g2, g3, g4, hrec, rfl⟩ := id hWR
  obtain ⟨a, f1, M, ha, hok, rfl⟩ := id hWS
  obtain ⟨d1, d2, d3, hdr, rfl⟩ := id hWD
  refine lv_iload_n hx hb dX3_count_0 rfl (lv_at hl 1 rfl) ?_
  by_cases hp1 : (0 ≤ z.toInt ∧ z.toInt ≤ 7)
  · have hv : z.toInt = 0 ∨ z.toInt = 1 ∨ z.toInt = 2 ∨ z.toInt = 3 ∨ z.toInt = 4 ∨ z.toInt = 5 ∨ z.toInt = 6 ∨ z.toInt = 7 := by omega
    rcases hv with hv | hv | hv | hv | hv | hv | hv | hv
    · refine lv_tableIn (tgt := 48) (off := 47) hx hb dX3_count_1 (by rw [hv]; decide) (by rw [hv]; decide) (by rw [hv]; rfl) (by decide) ?_
      refine lv_aload_n hx hb dX3_count_48 rfl (lv_at hl 0 rfl) ?_
      refine va_get (D := D) (ci := 3) (v := .int (nI (sT x))) (C := RX3) (T := TX3) (N := 7) hx hb hts hiX3 hown hK hP 0 rfl rfl 4 (by decide) (hts (.fieldLink RX3 57 "StateKeeper" "present" "I") (List.mem_of_getElem? (i := 3) rfl)) (fun _ h9 => h9) rfl dX3_count_49 ?_
      have hv2 : tn z = 0 := by show z.toInt.toNat = _; rw [hv]; rfl
      refine vx_ret (W.widen (k := 8) (n := 48) (Nat.le_of_ble_eq_true rfl) (Nat.le_of_ble_eq_true rfl) ?_)
      exact W.iret hx hb hr (fun t9 ht9 _ => ⟨⟨_, (((o 0), .inr (3, [.ref (o 1), .ref (o 2), .ref (o 6), .ref (o 11), .int (nI (sT x)), .int (nI ev), .int (sd x)])) :: ((o 1), .inl (cF, n, .inr (.inr (.inl (sc x))))) :: ((drW cI cF o R.length d1 d2 d3) ++ ((recW cI cF o (sL x).length g1 g2 g3 g4) ++ (snapW cI cF cQ o n a (sS x).length f1 M)))), rfl, ⟨hp1, by rw [hv2]; rfl, hw⟩, by show va_P D vwCl _ t9.heap; rw [ht9]; exact hP⟩, hS.F ht9⟩) hS.2.2 dX3_count_52
    · refine lv_tableIn (tgt := 53) (off := 52) hx hb dX3_count_1 (by rw [hv]; decide) (by rw [hv]; decide) (by rw [hv]; rfl) (by decide) ?_
      refine lv_aload_n hx hb dX3_count_53 rfl (lv_at hl 0 rfl) ?_
      refine va_get (D := D) (ci := 3) (v := .ref (o 1)) (C := RX3) (T := TX3) (N := 7) hx hb hts hiX3 hown hK hP 0 rfl rfl 0 (by decide) (hts (.fieldLink RX3 9 "StateKeeper" "cells" "[F") (List.mem_of_getElem? (i := 4) rfl)) (fun _ h9 => h9) rfl dX3_count_54 ?_
      refine va_alen (v := nI n) hx hb hK hP 1 0 rfl rfl rfl dX3_count_57 ?_
      have hv2 : tn z = 1 := by show z.toInt.toNat = _; rw [hv]; rfl
      refine vx_ret (W.widen (k := 8) (n := 48) (Nat.le_of_ble_eq_true rfl) (Nat.le_of_ble_eq_true rfl) ?_)
      exact W.iret hx hb hr (fun t9 ht9 _ => ⟨⟨_, (((o 0), .inr (3, [.ref (o 1), .ref (o 2), .ref (o 6), .ref (o 11), .int (nI (sT x)), .int (nI ev), .int (sd x)])) :: ((o 1), .inl (cF, n, .inr (.inr (.inl (sc x))))) :: ((drW cI cF o R.length d1 d2 d3) ++ ((recW cI cF o (sL x).length g1 g2 g3 g4) ++ (snapW cI cF cQ o n a (sS x).length f1 M)))), rfl, ⟨hp1, by rw [hv2]; rfl, hw⟩, by show va_P D vwCl _ t9.heap; rw [ht9]; exact hP⟩, hS.F ht9⟩) hS.2.2 dX3_count_58
    · refine lv_tableIn (tgt := 59) (off := 58) hx hb dX3_count_1 (by rw [hv]; decide) (by rw [hv]; decide) (by rw [hv]; rfl) (by decide) ?_
      refine lv_aload_n hx hb dX3_count_59 rfl (lv_at hl 0 rfl) ?_
      refine va_get (D := D) (ci := 3) (v := .ref (o 11)) (C := RX3) (T := TX3) (N := 7) hx hb hts hiX3 hown hK hP 0 rfl rfl 3 (by decide) (hts (.fieldLink RX3 32 "StateKeeper" "snapshots" "LStateKeeper$Snapshots;") (List.mem_of_getElem? (i := 5) rfl)) (fun _ h9 => h9) rfl dX3_count_60 ?_
      have hPc : va_P D vwCl (snapW cI cF cQ o n a (sS x).length f1 M) _ := lz_cutP (sk_pS ((o 0), .inr (3, [.ref (o 1), .ref (o 2), .ref (o 6), .ref (o 11), .int (nI (sT x)), .int (nI ev), .int (sd x)])) ((o 1), .inl (cF, n, .inr (.inr (.inl (sc x))))) (drW cI cF o R.length d1 d2 d3) (recW cI cF o (sL x).length g1 g2 g3 g4) (snapW cI cF cQ o n a (sS x).length f1 M)) hP
      have hDc : va_D A (snapW cI cF cQ o n a (sS x).length f1 M) := lz_cutD (sk_pS ((o 0), .inr (3, [.ref (o 1), .ref (o 2), .ref (o 6), .ref (o 11), .int (nI (sT x)), .int (nI ev), .int (sd x)])) ((o 1), .inl (cF, n, .inr (.inr (.inl (sc x))))) (drW cI cF o R.length d1 d2 d3) (recW cI cF o (sL x).length g1 g2 g3 g4) (snapW cI cF cQ o n a (sS x).length f1 M)) hD
      refine va_getN (D := D) (ci := 2) (v := .int (nI (sS x).length)) (C := RX2) (T := TX2) (N := 4) (host := "StateKeeper") hx hb hts hiX2 hown hK hPc 0 rfl rfl 3 (by decide) (va_Nw.use rfl (hnf (RX3, 100, RX2, "size", "I") (by decide))) (fun _ h9 => h9) rfl dX3_count_63 ?_
      have hv2 : tn z = 2 := by show z.toInt.toNat = _; rw [hv]; rfl
      refine vx_ret (W.widen (k := 8) (n := 48) (Nat.le_of_ble_eq_true rfl) (Nat.le_of_ble_eq_true rfl) ?_)
      exact W.iret hx hb hr (fun t9 ht9 _ => ⟨⟨_, (((o 0), .inr (3, [.ref (o 1), .ref (o 2), .ref (o 6), .ref (o 11), .int (nI (sT x)), .int (nI ev), .int (sd x)])) :: ((o 1), .inl (cF, n, .inr (.inr (.inl (sc x))))) :: ((drW cI cF o R.length d1 d2 d3) ++ ((recW cI cF o (sL x).length g1 g2 g3 g4) ++ (snapW cI cF cQ o n a (sS x).length f1 M)))), rfl, ⟨hp1, by rw [hv2]; rfl, hw⟩, by show va_P D vwCl _ t9.heap; rw [ht9]; exact hP⟩, hS.F ht9⟩) hS.2.2 dX3_count_66
    · refine lv_tableIn (tgt := 67) (off := 66) hx hb dX3_count_1 (by rw [hv]; decide) (by rw [hv]; decide) (by rw [hv]; rfl) (by decide) ?_
      refine lv_aload_n hx hb dX3_count_67 rfl (lv_at hl 0 rfl) ?_
      refine va_get (D := D) (ci := 3) (v := .ref (o 6)) (C := RX3) (T := TX3) (N := 7) hx hb hts hiX3 hown hK hP 0 rfl rfl 2 (by decide) (hts (.fieldLink RX3 23 "StateKeeper" "inputRecord" "LStateKeeper$InputRecord;") (List.mem_of_getElem? (i := 6) rfl)) (fun _ h9 => h9) rfl dX3_count_68 ?_
      have hPc : va_P D vwCl (recW cI cF o (sL x).length g1 g2 g3 g4) _ := lz_cutP (sk_pR ((o 0), .inr (3, [.ref (o 1), .ref (o 2), .ref (o 6), .ref (o 11), .int (nI (sT x)), .int (nI ev), .int (sd x)])) ((o 1), .inl (cF, n, .inr (.inr (.inl (sc x))))) (drW cI cF o R.length d1 d2 d3) (recW cI cF o (sL x).length g1 g2 g3 g4) (snapW cI cF cQ o n a (sS x).length f1 M)) hP
      have hDc : va_D A (recW cI cF o (sL x).length g1 g2 g3 g4) := lz_cutD (sk_pR ((o 0), .inr (3, [.ref (o 1), .ref (o 2), .ref (o 6), .ref (o 11), .int (nI (sT x)), .int (nI ev), .int (sd x)])) ((o 1), .inl (cF, n, .inr (.inr (.inl (sc x))))) (drW cI cF o R.length d1 d2 d3) (recW cI cF o (sL x).length g1 g2 g3 g4) (snapW cI cF cQ o n a (sS x).length f1 M)) hD
      refine va_getN (D := D) (ci := 1) (v := .int (nI (sL x).length)) (C := RX1) (T := TX1) (N := 5) (host := "StateKeeper") hx hb hts hiX1 hown hK hPc 0 rfl rfl 4 (by decide) (va_Nw.use rfl (hnf (RX3, 60, RX1, "size", "I") (by decide))) (fun _ h9 => h9) rfl dX3_count_71 ?_
      have hv2 : tn z = 3 := by show z.toInt.toNat = _; rw [hv]; rfl
      refine vx_ret (W.widen (k := 8) (n := 48) (Nat.le_of_ble_eq_true rfl) (Nat.le_of_ble_eq_true rfl) ?_)
      exact W.iret hx hb hr (fun t9 ht9 _ => ⟨⟨_, (((o 0), .inr (3, [.ref (o 1), .ref (o 2), .ref (o 6), .ref (o 11), .int (nI (sT x)), .int (nI ev), .int (sd x)])) :: ((o 1), .inl (cF, n, .inr (.inr (.inl (sc x))))) :: ((drW cI cF o R.length d1 d2 d3) ++ ((recW cI cF o (sL x).length g1 g2 g3 g4) ++ (snapW cI cF cQ o n a (sS x).length f1 M)))), rfl, ⟨hp1, by rw [hv2]; rfl, hw⟩, by show va_P D vwCl _ t9.heap; rw [ht9]; exact hP⟩, hS.F ht9⟩) hS.2.2 dX3_count_74
    · refine lv_tableIn (tgt := 75) (off := 74) hx hb dX3_count_1 (by rw [hv]; decide) (by rw [hv]; decide) (by rw [hv]; rfl) (by decide) ?_
      refine lv_aload_n hx hb dX3_count_75 rfl (lv_at hl 0 rfl) ?_
      refine va_get (D := D) (ci := 3) (v := .ref (o 6)) (C := RX3) (T := TX3) (N := 7) hx hb hts hiX3 hown hK hP 0 rfl rfl 2 (by decide) (hts (.fieldLink RX3 23 "StateKeeper" "inputRecord" "LStateKeeper$InputRecord;") (List.mem_of_getElem? (i := 6) rfl)) (fun _ h9 => h9) rfl dX3_count_76 ?_
      refine lv_aload_n hx hb dX3_count_79 rfl (lv_at hl 0 rfl) ?_
      refine va_get (D := D) (ci := 3) (v := .int (nI (sT x))) (C := RX3) (T := TX3) (N := 7) hx hb hts hiX3 hown hK hP 0 rfl rfl 4 (by decide) (hts (.fieldLink RX3 57 "StateKeeper" "present" "I") (List.mem_of_getElem? (i := 3) rfl)) (fun _ h9 => h9) rfl dX3_count_80 ?_
      have hPc : va_P D vwCl (recW cI cF o (sL x).length g1 g2 g3 g4) _ := lz_cutP (sk_pR ((o 0), .inr (3, [.ref (o 1), .ref (o 2), .ref (o 6), .ref (o 11), .int (nI (sT x)), .int (nI ev), .int (sd x)])) ((o 1), .inl (cF, n, .inr (.inr (.inl (sc x))))) (drW cI cF o R.length d1 d2 d3) (recW cI cF o (sL x).length g1 g2 g3 g4) (snapW cI cF cQ o n a (sS x).length f1 M)) hP
      have hDc : va_D A (recW cI cF o (sL x).length g1 g2 g3 g4) := lz_cutD (sk_pR ((o 0), .inr (3, [.ref (o 1), .ref (o 2), .ref (o 6), .ref (o 11), .int (nI (sT x)), .int (nI ev), .int (sd x)])) ((o 1), .inl (cF, n, .inr (.inr (.inl (sc x))))) (drW cI cF o R.length d1 d2 d3) (recW cI cF o (sL x).length g1 g2 g3 g4) (snapW cI cF cQ o n a (sS x).length f1 M)) hD
      refine vp_callSi (lz_runVN (C := RX1) (As := [.int (nI (sT x))]) (rest := []) hC hS hl (c_X1_sizeOf hrec hs hL9) ⟨va_cnB 1 hts gX3_count_X1_sizeOf_n82 rfl rfl rfl (hnm (RX3, 82, yX1_sizeOf) (by decide)) (hts (.initialized RX1) (List.mem_of_getElem? (i := 10) rfl)) (by decide +kernel) ⟨Nat.le_of_ble_eq_true rfl, Nat.le_of_ble_eq_true rfl⟩, (hts (.instanceMethod yX1_sizeOf) (List.mem_of_getElem? (i := 9) rfl)), (hts (.selects RX1 yX1_sizeOf yX1_sizeOf) (List.mem_of_getElem? (i := 11) rfl))⟩ hPc hDc (va_recv hK hPc (ci := 1) (q0 := 0) rfl rfl) rfl rfl (Nat.le_of_ble_eq_true rfl) dX3_count_83 ⟨Nat.le_of_ble_eq_true rfl, Nat.le_of_ble_eq_true rfl⟩).run (fun r_1 er_1 => ?_)
      subst er_1
      refine lz_i (y := nI (cq (sL x) (sT x : Int))) (by rw [nI_toInt (by omega)]) ?_
      have hv2 : tn z = 4 := by show z.toInt.toNat = _; rw [hv]; rfl
      refine vx_ret (W.widen (k := 8) (n := 48) (Nat.le_of_ble_eq_true rfl) (Nat.le_of_ble_eq_true rfl) ?_)
      exact W.iret hx hb hr (fun t9 ht9 _ => ⟨⟨_, (((o 0), .inr (3, [.ref (o 1), .ref (o 2), .ref (o 6), .ref (o 11), .int (nI (sT x)), .int (nI ev), .int (sd x)])) :: ((o 1), .inl (cF, n, .inr (.inr (.inl (sc x))))) :: ((drW cI cF o R.length d1 d2 d3) ++ ((recW cI cF o (sL x).length g1 g2 g3 g4) ++ (snapW cI cF cQ o n a (sS x).length f1 M)))), rfl, ⟨hp1, by rw [hv2]; rfl, hw⟩, by show va_P D vwCl _ t9.heap; rw [ht9]; exact hP⟩, hS.F ht9⟩) hS.2.2 dX3_count_86
    · refine lv_tableIn (tgt := 87) (off := 86) hx hb dX3_count_1 (by rw [hv]; decide) (by rw [hv]; decide) (by rw [hv]; rfl) (by decide) ?_
      refine lv_aload_n hx hb dX3_count_87 rfl (lv_at hl 0 rfl) ?_
      refine va_get (D := D) (ci := 3) (v := .ref (o 2)) (C := RX3) (T := TX3) (N := 7) hx hb hts hiX3 hown hK hP 0 rfl rfl 1 (by decide) (hts (.fieldLink RX3 16 "StateKeeper" "driftList" "LStateKeeper$Drifts;") (List.mem_of_getElem? (i := 7) rfl)) (fun _ h9 => h9) rfl dX3_count_88 ?_
      have hPc : va_P D vwCl (drW cI cF o R.length d1 d2 d3) _ := lz_cutP (sk_pD ((o 0), .inr (3, [.ref (o 1), .ref (o 2), .ref (o 6), .ref (o 11), .int (nI (sT x)), .int (nI ev), .int (sd x)])) ((o 1), .inl (cF, n, .inr (.inr (.inl (sc x))))) (drW cI cF o R.length d1 d2 d3) (recW cI cF o (sL x).length g1 g2 g3 g4) (snapW cI cF cQ o n a (sS x).length f1 M)) hP
      have hDc : va_D A (drW cI cF o R.length d1 d2 d3) := lz_cutD (sk_pD ((o 0), .inr (3, [.ref (o 1), .ref (o 2), .ref (o 6), .ref (o 11), .int (nI (sT x)), .int (nI ev), .int (sd x)])) ((o 1), .inl (cF, n, .inr (.inr (.inl (sc x))))) (drW cI cF o R.length d1 d2 d3) (recW cI cF o (sL x).length g1 g2 g3 g4) (snapW cI cF cQ o n a (sS x).length f1 M)) hD
      refine va_getN (D := D) (ci := 0) (v := .int (nI R.length)) (C := RX0) (T := TX0) (N := 4) (host := "StateKeeper") hx hb hts hiX0 hown hK hPc 0 rfl rfl 3 (by decide) (va_Nw.use rfl (hnf (RX3, 48, RX0, "size", "I") (by decide))) (fun _ h9 => h9) rfl dX3_count_91 ?_
      have hv2 : tn z = 5 := by show z.toInt.toNat = _; rw [hv]; rfl
      refine vx_ret (W.widen (k := 8) (n := 48) (Nat.le_of_ble_eq_true rfl) (Nat.le_of_ble_eq_true rfl) ?_)
      exact W.iret hx hb hr (fun t9 ht9 _ => ⟨⟨_, (((o 0), .inr (3, [.ref (o 1), .ref (o 2), .ref (o 6), .ref (o 11), .int (nI (sT x)), .int (nI ev), .int (sd x)])) :: ((o 1), .inl (cF, n, .inr (.inr (.inl (sc x))))) :: ((drW cI cF o R.length d1 d2 d3) ++ ((recW cI cF o (sL x).length g1 g2 g3 g4) ++ (snapW cI cF cQ o n a (sS x).length f1 M)))), rfl, ⟨hp1, by rw [hv2]; rfl, hw⟩, by show va_P D vwCl _ t9.heap; rw [ht9]; exact hP⟩, hS.F ht9⟩) hS.2.2 dX3_count_94
    · refine lv_tableIn (tgt := 95) (off := 94) hx hb dX3_count_1 (by rw [hv]; decide) (by rw [hv]; decide) (by rw [hv]; rfl) (by decide) ?_
      refine lv_aload_n hx hb dX3_count_95 rfl (lv_at hl 0 rfl) ?_
      refine va_get (D := D) (ci := 3) (v := .int (sd x)) (C := RX3) (T := TX3) (N := 7) hx hb hts hiX3 hown hK hP 0 rfl rfl 6 (by decide) (hts (.fieldLink RX3 150 "StateKeeper" "stepsDone" "I") (List.mem_of_getElem? (i := 8) rfl)) (fun _ h9 => h9) rfl dX3_count_96 ?_
      have hv2 : tn z = 6 := by show z.toInt.toNat = _; rw [hv]; rfl
      refine vx_ret (W.widen (k := 8) (n := 48) (Nat.le_of_ble_eq_true rfl) (Nat.le_of_ble_eq_true rfl) ?_)
      exact W.iret hx hb hr (fun t9 ht9 _ => ⟨⟨_, (((o 0), .inr (3, [.ref (o 1), .ref (o 2), .ref (o 6), .ref (o 11), .int (nI (sT x)), .int (nI ev), .int (sd x)])) :: ((o 1), .inl (cF, n, .inr (.inr (.inl (sc x))))) :: ((drW cI cF o R.length d1 d2 d3) ++ ((recW cI cF o (sL x).length g1 g2 g3 g4) ++ (snapW cI cF cQ o n a (sS x).length f1 M)))), rfl, ⟨hp1, by rw [hv2]; rfl, hw⟩, by show va_P D vwCl _ t9.heap; rw [ht9]; exact hP⟩, hS.F ht9⟩) hS.2.2 dX3_count_99
    · refine lv_tableIn (tgt := 100) (off := 99) hx hb dX3_count_1 (by rw [hv]; decide) (by rw [hv]; decide) (by rw [hv]; rfl) (by decide) ?_
      refine lv_aload_n hx hb dX3_count_100 rfl (lv_at hl 0 rfl) ?_
      refine vp_callSi (lz_runV (C := RX3) (As := []) (rest := []) hC hS hl (c_X3_cellsNotZero hw hn9) (cwV 0 hts gX3_count_X3_cellsNotZero rfl rfl rfl (by decide +kernel) ⟨Nat.le_of_ble_eq_true rfl, Nat.le_of_ble_eq_true rfl⟩) hP hD (va_recv hK hP (ci := 3) (q0 := 0) rfl rfl) rfl rfl (Nat.le_of_ble_eq_true rfl) dX3_count_101 ⟨Nat.le_of_ble_eq_true rfl, Nat.le_of_ble_eq_true rfl⟩).run (fun r_2 er_2 => ?_)
      subst er_2
      have hv2 : tn z = 7 := by show z.toInt.toNat = _; rw [hv]; rfl
      refine vx_ret (W.widen (k := 8) (n := 48) (Nat.le_of_ble_eq_true rfl) (Nat.le_of_ble_eq_true rfl) ?_)
      exact W.iret hx hb hr (fun t9 ht9 _ => ⟨⟨_, (((o 0), .inr (3, [.ref (o 1), .ref (o 2), .ref (o 6), .ref (o 11), .int (nI (sT x)), .int (nI ev), .int (sd x)])) :: ((o 1), .inl (cF, n, .inr (.inr (.inl (sc x))))) :: ((drW cI cF o R.length d1 d2 d3) ++ ((recW cI cF o (sL x).length g1 g2 g3 g4) ++ (snapW cI cF cQ o n a (sS x).length f1 M)))), rfl, ⟨hp1, by rw [hv2]; rfl, hw⟩, by show va_P D vwCl _ t9.heap; rw [ht9]; exact hP⟩, hS.F ht9⟩) hS.2.2 dX3_count_104
  refine lv_tableOut (tgt := 105) hx hb dX3_count_1 (by omega) (by decide) ?_
  exact lx_thI (text := "what is not 0 .. 7") (is := 157) (by decide) hC hx hb htab hlk hl hP hS (hts (.classLink RX3 126 "java/lang/IndexOutOfBoundsException") (List.mem_of_getElem? (i := 1) rfl)) (hts (.initialized "java/lang/IndexOutOfBoundsException") (List.mem_of_getElem? (i := 2) rfl)) (fun _ h9 => List.mem_cons_of_mem _ (List.mem_append_right _ h9)) dX3_count_105 dX3_count_108 dX3_count_109 dX3_count_111 dX3_count_114 (Nat.le_of_ble_eq_true rfl) (Nat.le_of_ble_eq_true rfl) (Nat.le_of_ble_eq_true rfl) (Nat.le_of_ble_eq_true rfl) (Or.inl ⟨rfl, hp1⟩) (Nat.le_of_ble_eq_true rfl) (Nat.le_of_ble_eq_true rfl)

end X3c
