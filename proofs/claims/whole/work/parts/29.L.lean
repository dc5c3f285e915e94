/-! the law's helpers, one a method of the class -/
section HL
variable {l : Launch} {D : va_G} {cI cF cQ cJ cD : ClassId} {aT sz : Nat} {o : Nat → Nat} {n ev : Nat} {R : List dI} {x : St} {w : va_W} {aO : Nat}
set_option maxRecDepth 100000 in
set_option maxHeartbeats 4000000 in
/-- drift -/
theorem c_L_drift {a b : Int32} {f : UInt32}  {fo : Nat → Int64} (hw : WC cI cF cQ o n ev R x w) (hx0 : Ok n ev R x) (hs : srt (sL x)) : Met l yL_drift wsL_drift (rmk 10 8 48) (pcL l D cI cF cQ aT cJ cD [.ref (o 0), .int a, .int b, .float f, .ref aO] ((aO, .inl (cJ, 1, .inr (.inl fo))) :: w) sz) (va_Qi (fun (r : Int32) (w1 : va_W) => ∃ (k : Nat) (wC : va_W) (g : Nat → Int64), r = nI k ∧ cdR (kn n a ∧ kn n b) (inF c4N c4P f) (R.length < 64 ∧ sT x = 0 ∧ (sL x).length = 0) k ∧ w1 = (aO, .inl (cJ, 1, .inr (.inl g))) :: wC ∧ (k = 0 → g 0 = (nI (R.length + 1)).toInt64 ∧ WC cI cF cQ o n ev (R ++ [(tn a, tn b, f)]) x wC) ∧ (k ≠ 0 → WC cI cF cQ o n ev R x wC)) (fun w1 t => va_P D vwCl w1 t.heap) (va_A ((aO, .inl (cJ, 1, .inr (.inl fo))) :: w) sz)) 8 48 (va_A ((aO, .inl (cJ, 1, .inr (.inl fo))) :: w) sz) := by
  refine lz_ofH (Qf := fun A => va_Qi (fun (r : Int32) (w1 : va_W) => ∃ (k : Nat) (wC : va_W) (g : Nat → Int64), r = nI k ∧ cdR (kn n a ∧ kn n b) (inF c4N c4P f) (R.length < 64 ∧ sT x = 0 ∧ (sL x).length = 0) k ∧ w1 = (aO, .inl (cJ, 1, .inr (.inl g))) :: wC ∧ (k = 0 → g 0 = (nI (R.length + 1)).toInt64 ∧ WC cI cF cQ o n ev (R ++ [(tn a, tn b, f)]) x wC) ∧ (k ≠ 0 → WC cI cF cQ o n ev R x wC)) (fun w1 t => va_P D vwCl w1 t.heap) A) (cc := cL_drift) (maxL := 6) (ret := (some .int)) (hh := [(0, 12, 15, 13), (0, 12, 19, 15), (0, 12, 23, 17)]) (by decide) rfl (Nat.le_of_ble_eq_true rfl) ?_
  intro p e s m below meth c A hAe hsz htab hx hb hr hlk hC hKJ hP hD hS ls hl
  clear hAe
  have hts := hC.1.2.2.2.2
  have hown : s.vm.findClass RL = some m.cls := hC.1.2.2.2.1
  have hml := hC.1.2.2.1
  have hA := hC.2.1
  have hK := hC.2.2.2.1
  have hnm := hC.2.2.2.2.1
  have hnf := hC.2.2.2.2.2.1
  have hl : lv_has ls 6 [(0, .ref (o 0)), (1, .int a), (2, .int b), (3, .float f), (4, .ref aO)] := hl
  have hw2 : o 0 = o 0 := rfl
  refine lv_aload hx hb dL_drift_0 (lv_at hl 4 rfl) ?_
  refine lv_iconst (v := nI 0) hx hb dL_drift_2 (by decide) ?_
  refine lv_aload_n hx hb dL_drift_3 rfl (lv_at hl 0 rfl) ?_
  refine lv_iload_n hx hb dL_drift_4 rfl (lv_at hl 1 rfl) ?_
  refine lv_iload_n hx hb dL_drift_5 rfl (lv_at hl 2 rfl) ?_
  refine lv_fload_n hx hb dL_drift_6 rfl (lv_at hl 3 rfl) ?_
  obtain ⟨wD, wR, wS, hWD, hWR, hWS, hwe⟩ := id hw
  have hpe : List.Perm (α := Nat × va_E) ((aO, .inl (cJ, 1, .inr (.inl fo))) :: w) (w ++ [(aO, .inl (cJ, 1, .inr (.inl fo)))]) := lz_pc _ w
  have hPc : va_P D vwCl w _ := lz_cutP hpe hP
  have hDc : va_D A w := lz_cutD hpe hD
  have hPr := id hPc
  rw [hwe] at hPr
  refine lx_cPi (lx_runV (C := RX3) (As := [.int a, .int b, .float f]) (rest := [.int (nI 0), .ref aO]) hC hS hl (c_X3_drift hw hx0 hs) (cwV 3 hts gL_drift_X3_drift rfl rfl rfl (by decide +kernel) ⟨Nat.le_of_ble_eq_true rfl, Nat.le_of_ble_eq_true rfl⟩) hPc hDc (va_recv hK hPr (ci := 3) (q0 := 0) rfl rfl) rfl rfl (Nat.le_of_ble_eq_true rfl) dL_drift_7 ⟨Nat.le_of_ble_eq_true rfl, Nat.le_of_ble_eq_true rfl⟩) hP hD hS hA hpe (fun r w1 h => h.2.2.2.2.ad2 hw) (fun E9 ce9 q9 H locs hE9 hP hD hS h91 h92 h93 => ?_) (fun r9 w1 H locs hpo hP hD hS => ?_)
  · have hsw : List.Perm (α := Nat × va_E) (w ++ [(aO, .inl (cJ, 1, .inr (.inl fo)))]) ((aO, .inl (cJ, 1, .inr (.inl fo))) :: w) := (lz_pc _ w).symm
    replace hP := lz_permP hsw hP
    replace hD := lz_permD hsw hD
    obtain ⟨-, -, -, -, hca, -, -, -, hN1, hN2, hN3, -⟩ := hC.2.2.2
    rcases hE9 with ⟨rfl, hn9⟩ | ⟨rfl, hp1, hn9⟩ | ⟨rfl, hp1, hp2, hn9⟩
    · refine vx_catch (own := RL) (name := eI) (E := eI) hown [] ⟨0, 12, 15, 13⟩ [⟨0, 12, 19, 15⟩, ⟨0, 12, 23, 17⟩] htab (fun z9 hz9 => nomatch hz9) (by decide) (by decide) (hts (.classLink RL 13 "java/lang/IndexOutOfBoundsException") (List.mem_of_getElem? (i := 1) rfl)) (va_Nw.use rfl (hca.1 eI (by decide))) h91 h92 h93 ?_
      show W p l e _ s m _ below meth c _ _ _ _ _ (F0 m 15 ls [.ref q9])
      refine lv_astore (lv' := [(5, .ref q9), (0, .ref (o 0)), (1, .int a), (2, .int b), (3, .float f), (4, .ref aO)]) hx hb dL_drift_15 hl (by decide) rfl (fun ls hl => ?_)
      refine lv_iconst (v := nI 1) hx hb dL_drift_17 (by decide) ?_
      exact W.iret hx hb hr (fun t9 ht9 _ => ⟨⟨_, (aO, .inl (cJ, 1, .inr (.inl fo))) :: w, rfl, ⟨1, w, fo, rfl, Or.inr (Or.inl ⟨hn9, rfl⟩), rfl, fun q => absurd q (by decide), fun _ => hw⟩, by show va_P D vwCl _ t9.heap; rw [ht9]; exact hP⟩, hS.F ht9⟩) hS.2.2 dL_drift_18
    · refine vx_catch (own := RL) (name := eA) (E := eA) hown [⟨0, 12, 15, 13⟩] ⟨0, 12, 19, 15⟩ [⟨0, 12, 23, 17⟩] htab (fun z9 hz9 => by
        rw [List.mem_singleton.mp hz9]
        exact Or.inr ⟨by decide, eI, (hts (.classLink RL 13 "java/lang/IndexOutOfBoundsException") (List.mem_of_getElem? (i := 1) rfl)), hN1⟩) (by decide) (by decide) (hts (.classLink RL 15 "java/lang/IllegalArgumentException") (List.mem_of_getElem? (i := 2) rfl)) (va_Nw.use rfl (hca.1 eA (by decide))) h91 h92 h93 ?_
      show W p l e _ s m _ below meth c _ _ _ _ _ (F0 m 19 ls [.ref q9])
      refine lv_astore (lv' := [(5, .ref q9), (0, .ref (o 0)), (1, .int a), (2, .int b), (3, .float f), (4, .ref aO)]) hx hb dL_drift_19 hl (by decide) rfl (fun ls hl => ?_)
      refine lv_iconst (v := nI 2) hx hb dL_drift_21 (by decide) ?_
      exact W.iret hx hb hr (fun t9 ht9 _ => ⟨⟨_, (aO, .inl (cJ, 1, .inr (.inl fo))) :: w, rfl, ⟨2, w, fo, rfl, Or.inr (Or.inr (Or.inl ⟨hp1, hn9, rfl⟩)), rfl, fun q => absurd q (by decide), fun _ => hw⟩, by show va_P D vwCl _ t9.heap; rw [ht9]; exact hP⟩, hS.F ht9⟩) hS.2.2 dL_drift_22
    · refine vx_catch (own := RL) (name := eS) (E := eS) hown [⟨0, 12, 15, 13⟩, ⟨0, 12, 19, 15⟩] ⟨0, 12, 23, 17⟩ [] htab (fun z9 hz9 => by
        rcases List.mem_cons.mp hz9 with rfl | hz9
        · exact Or.inr ⟨by decide, eI, (hts (.classLink RL 13 "java/lang/IndexOutOfBoundsException") (List.mem_of_getElem? (i := 1) rfl)), hN2⟩
        · rw [List.mem_singleton.mp hz9]
          exact Or.inr ⟨by decide, eA, (hts (.classLink RL 15 "java/lang/IllegalArgumentException") (List.mem_of_getElem? (i := 2) rfl)), hN3⟩) (by decide) (by decide) (hts (.classLink RL 17 "java/lang/IllegalStateException") (List.mem_of_getElem? (i := 3) rfl)) (va_Nw.use rfl (hca.1 eS (by decide))) h91 h92 h93 ?_
      show W p l e _ s m _ below meth c _ _ _ _ _ (F0 m 23 ls [.ref q9])
      refine lv_astore (lv' := [(5, .ref q9), (0, .ref (o 0)), (1, .int a), (2, .int b), (3, .float f), (4, .ref aO)]) hx hb dL_drift_23 hl (by decide) rfl (fun ls hl => ?_)
      refine lv_iconst (v := nI 3) hx hb dL_drift_25 (by decide) ?_
      exact W.iret hx hb hr (fun t9 ht9 _ => ⟨⟨_, (aO, .inl (cJ, 1, .inr (.inl fo))) :: w, rfl, ⟨3, w, fo, rfl, Or.inr (Or.inr (Or.inr ⟨hp1, hp2, hn9, rfl⟩)), rfl, fun q => absurd q (by decide), fun _ => hw⟩, by show va_P D vwCl _ t9.heap; rw [ht9]; exact hP⟩, hS.F ht9⟩) hS.2.2 dL_drift_26
  · have hsw : List.Perm (α := Nat × va_E) (w1 ++ [(aO, .inl (cJ, 1, .inr (.inl fo)))]) ((aO, .inl (cJ, 1, .inr (.inl fo))) :: w1) := (lz_pc _ w1).symm
    replace hP := lz_permP hsw hP
    replace hD := lz_permD hsw hD
    obtain ⟨hp1, hp2, hp3, rfl, hw9⟩ := hpo
    refine lv_i2l (v := (nI (R.length + 1)).toInt64) hx hb dL_drift_10 rfl ?_
    refine lz_last hx hb hKJ hP hD hS dL_drift_11 (fun H locs hP hD hS => ?_)
    refine lv_goto (tgt := 27) hx hb dL_drift_12 (by decide) ?_
    refine lv_iconst (v := nI 0) hx hb dL_drift_27 (by decide) ?_
    exact W.iret hx hb hr (fun t9 ht9 _ => ⟨⟨_, (aO, .inl (cJ, 1, .inr (.inl (vp_updL fo 0 (nI (R.length + 1)).toInt64)))) :: w1, rfl, ⟨0, w1, _, rfl, Or.inl ⟨hp1, hp2, hp3, rfl⟩, rfl, fun _ => ⟨rfl, hw9⟩, fun q => absurd rfl q⟩, by show va_P D vwCl _ t9.heap; rw [ht9]; exact hP⟩, hS.F ht9⟩) hS.2.2 dL_drift_28

set_option maxRecDepth 100000 in
set_option maxHeartbeats 4000000 in
/-- every -/
theorem c_L_every {z : Int32}  {fo : Nat → Int64} (hw : WC cI cF cQ o n ev R x w) (hx0 : Ok n ev R x) (hs : srt (sL x)) : Met l yL_every wsL_every (rmk 10 8 48) (pcL l D cI cF cQ aT cJ cD [.ref (o 0), .int z, .ref aO] ((aO, .inl (cJ, 1, .inr (.inl fo))) :: w) sz) (va_Qi (fun (r : Int32) (w1 : va_W) => ∃ (k : Nat) (wC : va_W) (g : Nat → Int64), r = nI k ∧ cdR (0 ≤ z.toInt ∧ z.toInt ≤ 100) True True k ∧ w1 = (aO, .inl (cJ, 1, .inr (.inl g))) :: wC ∧ (k = 0 → g 0 = (nI ev).toInt64 ∧ WC cI cF cQ o n (tn z) R x wC) ∧ (k ≠ 0 → WC cI cF cQ o n ev R x wC)) (fun w1 t => va_P D vwCl w1 t.heap) (va_A ((aO, .inl (cJ, 1, .inr (.inl fo))) :: w) sz)) 8 48 (va_A ((aO, .inl (cJ, 1, .inr (.inl fo))) :: w) sz) := by
  refine lz_ofH (Qf := fun A => va_Qi (fun (r : Int32) (w1 : va_W) => ∃ (k : Nat) (wC : va_W) (g : Nat → Int64), r = nI k ∧ cdR (0 ≤ z.toInt ∧ z.toInt ≤ 100) True True k ∧ w1 = (aO, .inl (cJ, 1, .inr (.inl g))) :: wC ∧ (k = 0 → g 0 = (nI ev).toInt64 ∧ WC cI cF cQ o n (tn z) R x wC) ∧ (k ≠ 0 → WC cI cF cQ o n ev R x wC)) (fun w1 t => va_P D vwCl w1 t.heap) A) (cc := cL_every) (maxL := 4) (ret := (some .int)) (hh := [(0, 9, 12, 15)]) (by decide) rfl (Nat.le_of_ble_eq_true rfl) ?_
  intro p e s m below meth c A hAe hsz htab hx hb hr hlk hC hKJ hP hD hS ls hl
  clear hAe
  have hts := hC.1.2.2.2.2
  have hown : s.vm.findClass RL = some m.cls := hC.1.2.2.2.1
  have hml := hC.1.2.2.1
  have hA := hC.2.1
  have hK := hC.2.2.2.1
  have hnm := hC.2.2.2.2.1
  have hnf := hC.2.2.2.2.2.1
  have hl : lv_has ls 4 [(0, .ref (o 0)), (1, .int z), (2, .ref aO)] := hl
  have hw2 : o 0 = o 0 := rfl
  refine lv_aload_n hx hb dL_every_0 rfl (lv_at hl 2 rfl) ?_
  refine lv_iconst (v := nI 0) hx hb dL_every_1 (by decide) ?_
  refine lv_aload_n hx hb dL_every_2 rfl (lv_at hl 0 rfl) ?_
  refine lv_iload_n hx hb dL_every_3 rfl (lv_at hl 1 rfl) ?_
  obtain ⟨wD, wR, wS, hWD, hWR, hWS, hwe⟩ := id hw
  have hpe : List.Perm (α := Nat × va_E) ((aO, .inl (cJ, 1, .inr (.inl fo))) :: w) (w ++ [(aO, .inl (cJ, 1, .inr (.inl fo)))]) := lz_pc _ w
  have hPc : va_P D vwCl w _ := lz_cutP hpe hP
  have hDc : va_D A w := lz_cutD hpe hD
  have hPr := id hPc
  rw [hwe] at hPr
  refine lx_cPi (lx_runV (C := RX3) (As := [.int z]) (rest := [.int (nI 0), .ref aO]) hC hS hl (c_X3_every hw hx0 hs) (cwV 1 hts gL_every_X3_every rfl rfl rfl (by decide +kernel) ⟨Nat.le_of_ble_eq_true rfl, Nat.le_of_ble_eq_true rfl⟩) hPc hDc (va_recv hK hPr (ci := 3) (q0 := 0) rfl rfl) rfl rfl (Nat.le_of_ble_eq_true rfl) dL_every_4 ⟨Nat.le_of_ble_eq_true rfl, Nat.le_of_ble_eq_true rfl⟩) hP hD hS hA hpe (fun r w1 h => h.2.2.ad2 hw) (fun E9 ce9 q9 H locs hE9 hP hD hS h91 h92 h93 => ?_) (fun r9 w1 H locs hpo hP hD hS => ?_)
  · have hsw : List.Perm (α := Nat × va_E) (w ++ [(aO, .inl (cJ, 1, .inr (.inl fo)))]) ((aO, .inl (cJ, 1, .inr (.inl fo))) :: w) := (lz_pc _ w).symm
    replace hP := lz_permP hsw hP
    replace hD := lz_permD hsw hD
    obtain ⟨-, -, -, -, hca, -, -, -, hN1, hN2, hN3, -⟩ := hC.2.2.2
    rcases hE9 with ⟨rfl, hn9⟩ | ⟨rfl, hp1, hn9⟩ | ⟨rfl, hp1, hp2, hn9⟩
    · refine vx_catch (own := RL) (name := eA) (E := eA) hown [] ⟨0, 9, 12, 15⟩ [] htab (fun z9 hz9 => nomatch hz9) (by decide) (by decide) (hts (.classLink RL 15 "java/lang/IllegalArgumentException") (List.mem_of_getElem? (i := 1) rfl)) (va_Nw.use rfl (hca.1 eA (by decide))) h91 h92 h93 ?_
      show W p l e _ s m _ below meth c _ _ _ _ _ (F0 m 12 ls [.ref q9])
      refine lv_astore_n (lv' := [(3, .ref q9), (0, .ref (o 0)), (1, .int z), (2, .ref aO)]) hx hb dL_every_12 rfl hl (by decide) rfl (fun ls hl => ?_)
      refine lv_iconst (v := nI 1) hx hb dL_every_13 (by decide) ?_
      exact W.iret hx hb hr (fun t9 ht9 _ => ⟨⟨_, (aO, .inl (cJ, 1, .inr (.inl fo))) :: w, rfl, ⟨1, w, fo, rfl, Or.inr (Or.inl ⟨hn9, rfl⟩), rfl, fun q => absurd q (by decide), fun _ => hw⟩, by show va_P D vwCl _ t9.heap; rw [ht9]; exact hP⟩, hS.F ht9⟩) hS.2.2 dL_every_14
    · exact absurd trivial hn9
    · exact absurd trivial hn9
  · have hsw : List.Perm (α := Nat × va_E) (w1 ++ [(aO, .inl (cJ, 1, .inr (.inl fo)))]) ((aO, .inl (cJ, 1, .inr (.inl fo))) :: w1) := (lz_pc _ w1).symm
    replace hP := lz_permP hsw hP
    replace hD := lz_permD hsw hD
    obtain ⟨hp1, rfl, hw9⟩ := hpo
    refine lv_i2l (v := (nI ev).toInt64) hx hb dL_every_7 rfl ?_
    refine lz_last hx hb hKJ hP hD hS dL_every_8 (fun H locs hP hD hS => ?_)
    refine lv_goto (tgt := 15) hx hb dL_every_9 (by decide) ?_
    refine lv_iconst (v := nI 0) hx hb dL_every_15 (by decide) ?_
    exact W.iret hx hb hr (fun t9 ht9 _ => ⟨⟨_, (aO, .inl (cJ, 1, .inr (.inl (vp_updL fo 0 (nI ev).toInt64)))) :: w1, rfl, ⟨0, w1, _, rfl, Or.inl ⟨hp1, trivial, trivial, rfl⟩, rfl, fun _ => ⟨rfl, hw9⟩, fun q => absurd rfl q⟩, by show va_P D vwCl _ t9.heap; rw [ht9]; exact hP⟩, hS.F ht9⟩) hS.2.2 dL_every_16

set_option maxRecDepth 100000 in
set_option maxHeartbeats 4000000 in
/-- input -/
theorem c_L_input {z q : Int32} {v : UInt32}  {fo : Nat → Int64} (hw : WC cI cF cQ o n ev R x w) (hx0 : Ok n ev R x) (hs : srt (sL x)) : Met l yL_input wsL_input (rmk 10 8 48) (pcL l D cI cF cQ aT cJ cD [.ref (o 0), .int z, .int q, .float v, .ref aO] ((aO, .inl (cJ, 1, .inr (.inl fo))) :: w) sz) (va_Qi (fun (r : Int32) (w1 : va_W) => ∃ (k : Nat) (wC : va_W) (g : Nat → Int64), r = nI k ∧ cdR (kn n z) (okW q v) (1 + (sL x).length ≤ 512) k ∧ w1 = (aO, .inl (cJ, 1, .inr (.inl g))) :: wC ∧ (k = 0 → g 0 = (nI (cq (rins (sL x) (sT x, tn z, tn q, v)) (sT x : Int))).toInt64 ∧ WC cI cF cQ o n ev R (stL x (rins (sL x) (sT x, tn z, tn q, v))) wC) ∧ (k ≠ 0 → WC cI cF cQ o n ev R x wC)) (fun w1 t => va_P D vwCl w1 t.heap) (va_A ((aO, .inl (cJ, 1, .inr (.inl fo))) :: w) sz)) 8 48 (va_A ((aO, .inl (cJ, 1, .inr (.inl fo))) :: w) sz) := by
  refine lz_ofH (Qf := fun A => va_Qi (fun (r : Int32) (w1 : va_W) => ∃ (k : Nat) (wC : va_W) (g : Nat → Int64), r = nI k ∧ cdR (kn n z) (okW q v) (1 + (sL x).length ≤ 512) k ∧ w1 = (aO, .inl (cJ, 1, .inr (.inl g))) :: wC ∧ (k = 0 → g 0 = (nI (cq (rins (sL x) (sT x, tn z, tn q, v)) (sT x : Int))).toInt64 ∧ WC cI cF cQ o n ev R (stL x (rins (sL x) (sT x, tn z, tn q, v))) wC) ∧ (k ≠ 0 → WC cI cF cQ o n ev R x wC)) (fun w1 t => va_P D vwCl w1 t.heap) A) (cc := cL_input) (maxL := 6) (ret := (some .int)) (hh := [(0, 12, 15, 13), (0, 12, 19, 15), (0, 12, 23, 17)]) (by decide) rfl (Nat.le_of_ble_eq_true rfl) ?_
  intro p e s m below meth c A hAe hsz htab hx hb hr hlk hC hKJ hP hD hS ls hl
  clear hAe
  have hts := hC.1.2.2.2.2
  have hown : s.vm.findClass RL = some m.cls := hC.1.2.2.2.1
  have hml := hC.1.2.2.1
  have hA := hC.2.1
  have hK := hC.2.2.2.1
  have hnm := hC.2.2.2.2.1
  have hnf := hC.2.2.2.2.2.1
  have hl : lv_has ls 6 [(0, .ref (o 0)), (1, .int z), (2, .int q), (3, .float v), (4, .ref aO)] := hl
  have hw2 : o 0 = o 0 := rfl
  refine lv_aload hx hb dL_input_0 (lv_at hl 4 rfl) ?_
  refine lv_iconst (v := nI 0) hx hb dL_input_2 (by decide) ?_
  refine lv_aload_n hx hb dL_input_3 rfl (lv_at hl 0 rfl) ?_
  refine lv_iload_n hx hb dL_input_4 rfl (lv_at hl 1 rfl) ?_
  refine lv_iload_n hx hb dL_input_5 rfl (lv_at hl 2 rfl) ?_
  refine lv_fload_n hx hb dL_input_6 rfl (lv_at hl 3 rfl) ?_
  obtain ⟨wD, wR, wS, hWD, hWR, hWS, hwe⟩ := id hw
  have hpe : List.Perm (α := Nat × va_E) ((aO, .inl (cJ, 1, .inr (.inl fo))) :: w) (w ++ [(aO, .inl (cJ, 1, .inr (.inl fo)))]) := lz_pc _ w
  have hPc : va_P D vwCl w _ := lz_cutP hpe hP
  have hDc : va_D A w := lz_cutD hpe hD
  have hPr := id hPc
  rw [hwe] at hPr
  refine lx_cPi (lx_runV (C := RX3) (As := [.int z, .int q, .float v]) (rest := [.int (nI 0), .ref aO]) hC hS hl (c_X3_input hw hx0 hs) (cwV 3 hts gL_input_X3_input rfl rfl rfl (by decide +kernel) ⟨Nat.le_of_ble_eq_true rfl, Nat.le_of_ble_eq_true rfl⟩) hPc hDc (va_recv hK hPr (ci := 3) (q0 := 0) rfl rfl) rfl rfl (Nat.le_of_ble_eq_true rfl) dL_input_7 ⟨Nat.le_of_ble_eq_true rfl, Nat.le_of_ble_eq_true rfl⟩) hP hD hS hA hpe (fun r w1 h => h.2.2.2.2.ad2 hw) (fun E9 ce9 q9 H locs hE9 hP hD hS h91 h92 h93 => ?_) (fun r9 w1 H locs hpo hP hD hS => ?_)
  · have hsw : List.Perm (α := Nat × va_E) (w ++ [(aO, .inl (cJ, 1, .inr (.inl fo)))]) ((aO, .inl (cJ, 1, .inr (.inl fo))) :: w) := (lz_pc _ w).symm
    replace hP := lz_permP hsw hP
    replace hD := lz_permD hsw hD
    obtain ⟨-, -, -, -, hca, -, -, -, hN1, hN2, hN3, -⟩ := hC.2.2.2
    rcases hE9 with ⟨rfl, hn9⟩ | ⟨rfl, hp1, hn9⟩ | ⟨rfl, hp1, hp2, hn9⟩
    · refine vx_catch (own := RL) (name := eI) (E := eI) hown [] ⟨0, 12, 15, 13⟩ [⟨0, 12, 19, 15⟩, ⟨0, 12, 23, 17⟩] htab (fun z9 hz9 => nomatch hz9) (by decide) (by decide) (hts (.classLink RL 13 "java/lang/IndexOutOfBoundsException") (List.mem_of_getElem? (i := 1) rfl)) (va_Nw.use rfl (hca.1 eI (by decide))) h91 h92 h93 ?_
      show W p l e _ s m _ below meth c _ _ _ _ _ (F0 m 15 ls [.ref q9])
      refine lv_astore (lv' := [(5, .ref q9), (0, .ref (o 0)), (1, .int z), (2, .int q), (3, .float v), (4, .ref aO)]) hx hb dL_input_15 hl (by decide) rfl (fun ls hl => ?_)
      refine lv_iconst (v := nI 1) hx hb dL_input_17 (by decide) ?_
      exact W.iret hx hb hr (fun t9 ht9 _ => ⟨⟨_, (aO, .inl (cJ, 1, .inr (.inl fo))) :: w, rfl, ⟨1, w, fo, rfl, Or.inr (Or.inl ⟨hn9, rfl⟩), rfl, fun q => absurd q (by decide), fun _ => hw⟩, by show va_P D vwCl _ t9.heap; rw [ht9]; exact hP⟩, hS.F ht9⟩) hS.2.2 dL_input_18
    · refine vx_catch (own := RL) (name := eA) (E := eA) hown [⟨0, 12, 15, 13⟩] ⟨0, 12, 19, 15⟩ [⟨0, 12, 23, 17⟩] htab (fun z9 hz9 => by
        rw [List.mem_singleton.mp hz9]
        exact Or.inr ⟨by decide, eI, (hts (.classLink RL 13 "java/lang/IndexOutOfBoundsException") (List.mem_of_getElem? (i := 1) rfl)), hN1⟩) (by decide) (by decide) (hts (.classLink RL 15 "java/lang/IllegalArgumentException") (List.mem_of_getElem? (i := 2) rfl)) (va_Nw.use rfl (hca.1 eA (by decide))) h91 h92 h93 ?_
      show W p l e _ s m _ below meth c _ _ _ _ _ (F0 m 19 ls [.ref q9])
      refine lv_astore (lv' := [(5, .ref q9), (0, .ref (o 0)), (1, .int z), (2, .int q), (3, .float v), (4, .ref aO)]) hx hb dL_input_19 hl (by decide) rfl (fun ls hl => ?_)
      refine lv_iconst (v := nI 2) hx hb dL_input_21 (by decide) ?_
      exact W.iret hx hb hr (fun t9 ht9 _ => ⟨⟨_, (aO, .inl (cJ, 1, .inr (.inl fo))) :: w, rfl, ⟨2, w, fo, rfl, Or.inr (Or.inr (Or.inl ⟨hp1, hn9, rfl⟩)), rfl, fun q => absurd q (by decide), fun _ => hw⟩, by show va_P D vwCl _ t9.heap; rw [ht9]; exact hP⟩, hS.F ht9⟩) hS.2.2 dL_input_22
    · refine vx_catch (own := RL) (name := eS) (E := eS) hown [⟨0, 12, 15, 13⟩, ⟨0, 12, 19, 15⟩] ⟨0, 12, 23, 17⟩ [] htab (fun z9 hz9 => by
        rcases List.mem_cons.mp hz9 with rfl | hz9
        · exact Or.inr ⟨by decide, eI, (hts (.classLink RL 13 "java/lang/IndexOutOfBoundsException") (List.mem_of_getElem? (i := 1) rfl)), hN2⟩
        · rw [List.mem_singleton.mp hz9]
          exact Or.inr ⟨by decide, eA, (hts (.classLink RL 15 "java/lang/IllegalArgumentException") (List.mem_of_getElem? (i := 2) rfl)), hN3⟩) (by decide) (by decide) (hts (.classLink RL 17 "java/lang/IllegalStateException") (List.mem_of_getElem? (i := 3) rfl)) (va_Nw.use rfl (hca.1 eS (by decide))) h91 h92 h93 ?_
      show W p l e _ s m _ below meth c _ _ _ _ _ (F0 m 23 ls [.ref q9])
      refine lv_astore (lv' := [(5, .ref q9), (0, .ref (o 0)), (1, .int z), (2, .int q), (3, .float v), (4, .ref aO)]) hx hb dL_input_23 hl (by decide) rfl (fun ls hl => ?_)
      refine lv_iconst (v := nI 3) hx hb dL_input_25 (by decide) ?_
      exact W.iret hx hb hr (fun t9 ht9 _ => ⟨⟨_, (aO, .inl (cJ, 1, .inr (.inl fo))) :: w, rfl, ⟨3, w, fo, rfl, Or.inr (Or.inr (Or.inr ⟨hp1, hp2, hn9, rfl⟩)), rfl, fun q => absurd q (by decide), fun _ => hw⟩, by show va_P D vwCl _ t9.heap; rw [ht9]; exact hP⟩, hS.F ht9⟩) hS.2.2 dL_input_26
  · have hsw : List.Perm (α := Nat × va_E) (w1 ++ [(aO, .inl (cJ, 1, .inr (.inl fo)))]) ((aO, .inl (cJ, 1, .inr (.inl fo))) :: w1) := (lz_pc _ w1).symm
    replace hP := lz_permP hsw hP
    replace hD := lz_permD hsw hD
    obtain ⟨hp1, hp2, hp3, rfl, hw9⟩ := hpo
    refine lv_i2l (v := (nI (cq (rins (sL x) (sT x, tn z, tn q, v)) (sT x : Int))).toInt64) hx hb dL_input_10 rfl ?_
    refine lz_last hx hb hKJ hP hD hS dL_input_11 (fun H locs hP hD hS => ?_)
    refine lv_goto (tgt := 27) hx hb dL_input_12 (by decide) ?_
    refine lv_iconst (v := nI 0) hx hb dL_input_27 (by decide) ?_
    exact W.iret hx hb hr (fun t9 ht9 _ => ⟨⟨_, (aO, .inl (cJ, 1, .inr (.inl (vp_updL fo 0 (nI (cq (rins (sL x) (sT x, tn z, tn q, v)) (sT x : Int))).toInt64)))) :: w1, rfl, ⟨0, w1, _, rfl, Or.inl ⟨hp1, hp2, hp3, rfl⟩, rfl, fun _ => ⟨rfl, hw9⟩, fun q => absurd rfl q⟩, by show va_P D vwCl _ t9.heap; rw [ht9]; exact hP⟩, hS.F ht9⟩) hS.2.2 dL_input_28

set_option maxRecDepth 100000 in
set_option maxHeartbeats 4000000 in
/-- inputs -/
theorem c_L_inputs {z b c9 q : Int32} {v : UInt32}  {fo : Nat → Int64} (hw : WC cI cF cQ o n ev R x w) (hx0 : Ok n ev R x) (hs : srt (sL x)) : Met l yL_inputs wsL_inputs (rmk 10 8 48) (pcL l D cI cF cQ aT cJ cD [.ref (o 0), .int z, .int b, .int c9, .int q, .float v, .ref aO] ((aO, .inl (cJ, 1, .inr (.inl fo))) :: w) sz) (va_Qi (fun (r : Int32) (w1 : va_W) => ∃ (k : Nat) (wC : va_W) (g : Nat → Int64), r = nI k ∧ cdR (kn n z ∧ ((1 ≤ c9.toInt ∧ c9.toInt ≤ 256) → (0 ≤ z.toInt + (c9.toInt - 1) * b.toInt ∧ z.toInt + (c9.toInt - 1) * b.toInt < (n : Int)))) ((1 ≤ c9.toInt ∧ c9.toInt ≤ 256) ∧ okW q v) (c9.toInt + ((sL x).length : Int) ≤ 512) k ∧ w1 = (aO, .inl (cJ, 1, .inr (.inl g))) :: wC ∧ (k = 0 → g 0 = (nI (cq (insN rins (inN (sT x) z b q v) (tn c9) (sL x)) (sT x : Int))).toInt64 ∧ WC cI cF cQ o n ev R (stL x (insN rins (inN (sT x) z b q v) (tn c9) (sL x))) wC) ∧ (k ≠ 0 → WC cI cF cQ o n ev R x wC)) (fun w1 t => va_P D vwCl w1 t.heap) (va_A ((aO, .inl (cJ, 1, .inr (.inl fo))) :: w) sz)) 8 48 (va_A ((aO, .inl (cJ, 1, .inr (.inl fo))) :: w) sz) := by
  refine lz_ofH (Qf := fun A => va_Qi (fun (r : Int32) (w1 : va_W) => ∃ (k : Nat) (wC : va_W) (g : Nat → Int64), r = nI k ∧ cdR (kn n z ∧ ((1 ≤ c9.toInt ∧ c9.toInt ≤ 256) → (0 ≤ z.toInt + (c9.toInt - 1) * b.toInt ∧ z.toInt + (c9.toInt - 1) * b.toInt < (n : Int)))) ((1 ≤ c9.toInt ∧ c9.toInt ≤ 256) ∧ okW q v) (c9.toInt + ((sL x).length : Int) ≤ 512) k ∧ w1 = (aO, .inl (cJ, 1, .inr (.inl g))) :: wC ∧ (k = 0 → g 0 = (nI (cq (insN rins (inN (sT x) z b q v) (tn c9) (sL x)) (sT x : Int))).toInt64 ∧ WC cI cF cQ o n ev R (stL x (insN rins (inN (sT x) z b q v) (tn c9) (sL x))) wC) ∧ (k ≠ 0 → WC cI cF cQ o n ev R x wC)) (fun w1 t => va_P D vwCl w1 t.heap) A) (cc := cL_inputs) (maxL := 8) (ret := (some .int)) (hh := [(0, 16, 19, 13), (0, 16, 23, 15), (0, 16, 27, 17)]) (by decide) rfl (Nat.le_of_ble_eq_true rfl) ?_
  intro p e s m below meth c A hAe hsz htab hx hb hr hlk hC hKJ hP hD hS ls hl
  clear hAe
  have hts := hC.1.2.2.2.2
  have hown : s.vm.findClass RL = some m.cls := hC.1.2.2.2.1
  have hml := hC.1.2.2.1
  have hA := hC.2.1
  have hK := hC.2.2.2.1
  have hnm := hC.2.2.2.2.1
  have hnf := hC.2.2.2.2.2.1
  have hl : lv_has ls 8 [(0, .ref (o 0)), (1, .int z), (2, .int b), (3, .int c9), (4, .int q), (5, .float v), (6, .ref aO)] := hl
  have hw2 : o 0 = o 0 := rfl
  refine lv_aload hx hb dL_inputs_0 (lv_at hl 6 rfl) ?_
  refine lv_iconst (v := nI 0) hx hb dL_inputs_2 (by decide) ?_
  refine lv_aload_n hx hb dL_inputs_3 rfl (lv_at hl 0 rfl) ?_
  refine lv_iload_n hx hb dL_inputs_4 rfl (lv_at hl 1 rfl) ?_
  refine lv_iload_n hx hb dL_inputs_5 rfl (lv_at hl 2 rfl) ?_
  refine lv_iload_n hx hb dL_inputs_6 rfl (lv_at hl 3 rfl) ?_
  refine lv_iload hx hb dL_inputs_7 (lv_at hl 4 rfl) ?_
  refine lv_fload hx hb dL_inputs_9 (lv_at hl 5 rfl) ?_
  obtain ⟨wD, wR, wS, hWD, hWR, hWS, hwe⟩ := id hw
  have hpe : List.Perm (α := Nat × va_E) ((aO, .inl (cJ, 1, .inr (.inl fo))) :: w) (w ++ [(aO, .inl (cJ, 1, .inr (.inl fo)))]) := lz_pc _ w
  have hPc : va_P D vwCl w _ := lz_cutP hpe hP
  have hDc : va_D A w := lz_cutD hpe hD
  have hPr := id hPc
  rw [hwe] at hPr
  refine lx_cPi (lx_runV (C := RX3) (As := [.int z, .int b, .int c9, .int q, .float v]) (rest := [.int (nI 0), .ref aO]) hC hS hl (c_X3_inputs hw hx0 hs) (cwV 5 hts gL_inputs_X3_inputs rfl rfl rfl (by decide +kernel) ⟨Nat.le_of_ble_eq_true rfl, Nat.le_of_ble_eq_true rfl⟩) hPc hDc (va_recv hK hPr (ci := 3) (q0 := 0) rfl rfl) rfl rfl (Nat.le_of_ble_eq_true rfl) dL_inputs_11 ⟨Nat.le_of_ble_eq_true rfl, Nat.le_of_ble_eq_true rfl⟩) hP hD hS hA hpe (fun r w1 h => h.2.2.2.2.ad2 hw) (fun E9 ce9 q9 H locs hE9 hP hD hS h91 h92 h93 => ?_) (fun r9 w1 H locs hpo hP hD hS => ?_)
  · have hsw : List.Perm (α := Nat × va_E) (w ++ [(aO, .inl (cJ, 1, .inr (.inl fo)))]) ((aO, .inl (cJ, 1, .inr (.inl fo))) :: w) := (lz_pc _ w).symm
    replace hP := lz_permP hsw hP
    replace hD := lz_permD hsw hD
    obtain ⟨-, -, -, -, hca, -, -, -, hN1, hN2, hN3, -⟩ := hC.2.2.2
    rcases hE9 with ⟨rfl, hn9⟩ | ⟨rfl, hp1, hn9⟩ | ⟨rfl, hp1, hp2, hn9⟩
    · refine vx_catch (own := RL) (name := eI) (E := eI) hown [] ⟨0, 16, 19, 13⟩ [⟨0, 16, 23, 15⟩, ⟨0, 16, 27, 17⟩] htab (fun z9 hz9 => nomatch hz9) (by decide) (by decide) (hts (.classLink RL 13 "java/lang/IndexOutOfBoundsException") (List.mem_of_getElem? (i := 1) rfl)) (va_Nw.use rfl (hca.1 eI (by decide))) h91 h92 h93 ?_
      show W p l e _ s m _ below meth c _ _ _ _ _ (F0 m 19 ls [.ref q9])
      refine lv_astore (lv' := [(7, .ref q9), (0, .ref (o 0)), (1, .int z), (2, .int b), (3, .int c9), (4, .int q), (5, .float v), (6, .ref aO)]) hx hb dL_inputs_19 hl (by decide) rfl (fun ls hl => ?_)
      refine lv_iconst (v := nI 1) hx hb dL_inputs_21 (by decide) ?_
      exact W.iret hx hb hr (fun t9 ht9 _ => ⟨⟨_, (aO, .inl (cJ, 1, .inr (.inl fo))) :: w, rfl, ⟨1, w, fo, rfl, Or.inr (Or.inl ⟨hn9, rfl⟩), rfl, fun q => absurd q (by decide), fun _ => hw⟩, by show va_P D vwCl _ t9.heap; rw [ht9]; exact hP⟩, hS.F ht9⟩) hS.2.2 dL_inputs_22
    · refine vx_catch (own := RL) (name := eA) (E := eA) hown [⟨0, 16, 19, 13⟩] ⟨0, 16, 23, 15⟩ [⟨0, 16, 27, 17⟩] htab (fun z9 hz9 => by
        rw [List.mem_singleton.mp hz9]
        exact Or.inr ⟨by decide, eI, (hts (.classLink RL 13 "java/lang/IndexOutOfBoundsException") (List.mem_of_getElem? (i := 1) rfl)), hN1⟩) (by decide) (by decide) (hts (.classLink RL 15 "java/lang/IllegalArgumentException") (List.mem_of_getElem? (i := 2) rfl)) (va_Nw.use rfl (hca.1 eA (by decide))) h91 h92 h93 ?_
      show W p l e _ s m _ below meth c _ _ _ _ _ (F0 m 23 ls [.ref q9])
      refine lv_astore (lv' := [(7, .ref q9), (0, .ref (o 0)), (1, .int z), (2, .int b), (3, .int c9), (4, .int q), (5, .float v), (6, .ref aO)]) hx hb dL_inputs_23 hl (by decide) rfl (fun ls hl => ?_)
      refine lv_iconst (v := nI 2) hx hb dL_inputs_25 (by decide) ?_
      exact W.iret hx hb hr (fun t9 ht9 _ => ⟨⟨_, (aO, .inl (cJ, 1, .inr (.inl fo))) :: w, rfl, ⟨2, w, fo, rfl, Or.inr (Or.inr (Or.inl ⟨hp1, hn9, rfl⟩)), rfl, fun q => absurd q (by decide), fun _ => hw⟩, by show va_P D vwCl _ t9.heap; rw [ht9]; exact hP⟩, hS.F ht9⟩) hS.2.2 dL_inputs_26
    · refine vx_catch (own := RL) (name := eS) (E := eS) hown [⟨0, 16, 19, 13⟩, ⟨0, 16, 23, 15⟩] ⟨0, 16, 27, 17⟩ [] htab (fun z9 hz9 => by
        rcases List.mem_cons.mp hz9 with rfl | hz9
        · exact Or.inr ⟨by decide, eI, (hts (.classLink RL 13 "java/lang/IndexOutOfBoundsException") (List.mem_of_getElem? (i := 1) rfl)), hN2⟩
        · rw [List.mem_singleton.mp hz9]
          exact Or.inr ⟨by decide, eA, (hts (.classLink RL 15 "java/lang/IllegalArgumentException") (List.mem_of_getElem? (i := 2) rfl)), hN3⟩) (by decide) (by decide) (hts (.classLink RL 17 "java/lang/IllegalStateException") (List.mem_of_getElem? (i := 3) rfl)) (va_Nw.use rfl (hca.1 eS (by decide))) h91 h92 h93 ?_
      show W p l e _ s m _ below meth c _ _ _ _ _ (F0 m 27 ls [.ref q9])
      refine lv_astore (lv' := [(7, .ref q9), (0, .ref (o 0)), (1, .int z), (2, .int b), (3, .int c9), (4, .int q), (5, .float v), (6, .ref aO)]) hx hb dL_inputs_27 hl (by decide) rfl (fun ls hl => ?_)
      refine lv_iconst (v := nI 3) hx hb dL_inputs_29 (by decide) ?_
      exact W.iret hx hb hr (fun t9 ht9 _ => ⟨⟨_, (aO, .inl (cJ, 1, .inr (.inl fo))) :: w, rfl, ⟨3, w, fo, rfl, Or.inr (Or.inr (Or.inr ⟨hp1, hp2, hn9, rfl⟩)), rfl, fun q => absurd q (by decide), fun _ => hw⟩, by show va_P D vwCl _ t9.heap; rw [ht9]; exact hP⟩, hS.F ht9⟩) hS.2.2 dL_inputs_30
  · have hsw : List.Perm (α := Nat × va_E) (w1 ++ [(aO, .inl (cJ, 1, .inr (.inl fo)))]) ((aO, .inl (cJ, 1, .inr (.inl fo))) :: w1) := (lz_pc _ w1).symm
    replace hP := lz_permP hsw hP
    replace hD := lz_permD hsw hD
    obtain ⟨hp1, hp2, hp3, rfl, hw9⟩ := hpo
    refine lv_i2l (v := (nI (cq (insN rins (inN (sT x) z b q v) (tn c9) (sL x)) (sT x : Int))).toInt64) hx hb dL_inputs_14 rfl ?_
    refine lz_last hx hb hKJ hP hD hS dL_inputs_15 (fun H locs hP hD hS => ?_)
    refine lv_goto (tgt := 31) hx hb dL_inputs_16 (by decide) ?_
    refine lv_iconst (v := nI 0) hx hb dL_inputs_31 (by decide) ?_
    exact W.iret hx hb hr (fun t9 ht9 _ => ⟨⟨_, (aO, .inl (cJ, 1, .inr (.inl (vp_updL fo 0 (nI (cq (insN rins (inN (sT x) z b q v) (tn c9) (sL x)) (sT x : Int))).toInt64)))) :: w1, rfl, ⟨0, w1, _, rfl, Or.inl ⟨hp1, hp2, hp3, rfl⟩, rfl, fun _ => ⟨rfl, hw9⟩, fun q => absurd rfl q⟩, by show va_P D vwCl _ t9.heap; rw [ht9]; exact hP⟩, hS.F ht9⟩) hS.2.2 dL_inputs_32

set_option maxRecDepth 100000 in
set_option maxHeartbeats 4000000 in
/-- step -/
theorem c_L_step {z : Int32} (hT1 : sT x + 64 < 2 ^ 29) {fo : Nat → Int64} (hw : WC cI cF cQ o n ev R x w) (hx0 : Ok n ev R x) (hs : srt (sL x)) : Met l yL_step wsL_step (rmk 10 8 48) (pcL l D cI cF cQ aT cJ cD [.ref (o 0), .int z, .ref aO] ((aO, .inl (cJ, 1, .inr (.inl fo))) :: w) sz) (va_Qi (fun (r : Int32) (w1 : va_W) => ∃ (k : Nat) (wC : va_W) (g : Nat → Int64), r = nI k ∧ cdR (1 ≤ z.toInt ∧ z.toInt ≤ 64) True True k ∧ w1 = (aO, .inl (cJ, 1, .inr (.inl g))) :: wC ∧ (k = 0 → g 0 = (nI (sT x + tn z)).toInt64 ∧ WC cI cF cQ o n ev R (stps R ev (tn z) x) wC) ∧ (k ≠ 0 → WC cI cF cQ o n ev R x wC)) (fun w1 t => va_P D vwCl w1 t.heap) (va_A ((aO, .inl (cJ, 1, .inr (.inl fo))) :: w) sz)) 8 48 (va_A ((aO, .inl (cJ, 1, .inr (.inl fo))) :: w) sz) := by
  refine lz_ofH (Qf := fun A => va_Qi (fun (r : Int32) (w1 : va_W) => ∃ (k : Nat) (wC : va_W) (g : Nat → Int64), r = nI k ∧ cdR (1 ≤ z.toInt ∧ z.toInt ≤ 64) True True k ∧ w1 = (aO, .inl (cJ, 1, .inr (.inl g))) :: wC ∧ (k = 0 → g 0 = (nI (sT x + tn z)).toInt64 ∧ WC cI cF cQ o n ev R (stps R ev (tn z) x) wC) ∧ (k ≠ 0 → WC cI cF cQ o n ev R x wC)) (fun w1 t => va_P D vwCl w1 t.heap) A) (cc := cL_step) (maxL := 4) (ret := (some .int)) (hh := [(0, 9, 12, 15)]) (by decide) rfl (Nat.le_of_ble_eq_true rfl) ?_
  intro p e s m below meth c A hAe hsz htab hx hb hr hlk hC hKJ hP hD hS ls hl
  clear hAe
  have hts := hC.1.2.2.2.2
  have hown : s.vm.findClass RL = some m.cls := hC.1.2.2.2.1
  have hml := hC.1.2.2.1
  have hA := hC.2.1
  have hK := hC.2.2.2.1
  have hnm := hC.2.2.2.2.1
  have hnf := hC.2.2.2.2.2.1
  have hl : lv_has ls 4 [(0, .ref (o 0)), (1, .int z), (2, .ref aO)] := hl
  have hw2 : o 0 = o 0 := rfl
  refine lv_aload_n hx hb dL_step_0 rfl (lv_at hl 2 rfl) ?_
  refine lv_iconst (v := nI 0) hx hb dL_step_1 (by decide) ?_
  refine lv_aload_n hx hb dL_step_2 rfl (lv_at hl 0 rfl) ?_
  refine lv_iload_n hx hb dL_step_3 rfl (lv_at hl 1 rfl) ?_
  obtain ⟨wD, wR, wS, hWD, hWR, hWS, hwe⟩ := id hw
  have hpe : List.Perm (α := Nat × va_E) ((aO, .inl (cJ, 1, .inr (.inl fo))) :: w) (w ++ [(aO, .inl (cJ, 1, .inr (.inl fo)))]) := lz_pc _ w
  have hPc : va_P D vwCl w _ := lz_cutP hpe hP
  have hDc : va_D A w := lz_cutD hpe hD
  have hPr := id hPc
  rw [hwe] at hPr
  refine lx_cPi (lx_runV (C := RX3) (As := [.int z]) (rest := [.int (nI 0), .ref aO]) hC hS hl (c_X3_step hT1 hw hx0 hs) (cwV 1 hts gL_step_X3_step rfl rfl rfl (by decide +kernel) ⟨Nat.le_of_ble_eq_true rfl, Nat.le_of_ble_eq_true rfl⟩) hPc hDc (va_recv hK hPr (ci := 3) (q0 := 0) rfl rfl) rfl rfl (Nat.le_of_ble_eq_true rfl) dL_step_4 ⟨Nat.le_of_ble_eq_true rfl, Nat.le_of_ble_eq_true rfl⟩) hP hD hS hA hpe (fun r w1 h => h.2.2.ad2 hw) (fun E9 ce9 q9 H locs hE9 hP hD hS h91 h92 h93 => ?_) (fun r9 w1 H locs hpo hP hD hS => ?_)
  · have hsw : List.Perm (α := Nat × va_E) (w ++ [(aO, .inl (cJ, 1, .inr (.inl fo)))]) ((aO, .inl (cJ, 1, .inr (.inl fo))) :: w) := (lz_pc _ w).symm
    replace hP := lz_permP hsw hP
    replace hD := lz_permD hsw hD
    obtain ⟨-, -, -, -, hca, -, -, -, hN1, hN2, hN3, -⟩ := hC.2.2.2
    rcases hE9 with ⟨rfl, hn9⟩ | ⟨rfl, hp1, hn9⟩ | ⟨rfl, hp1, hp2, hn9⟩
    · refine vx_catch (own := RL) (name := eA) (E := eA) hown [] ⟨0, 9, 12, 15⟩ [] htab (fun z9 hz9 => nomatch hz9) (by decide) (by decide) (hts (.classLink RL 15 "java/lang/IllegalArgumentException") (List.mem_of_getElem? (i := 1) rfl)) (va_Nw.use rfl (hca.1 eA (by decide))) h91 h92 h93 ?_
      show W p l e _ s m _ below meth c _ _ _ _ _ (F0 m 12 ls [.ref q9])
      refine lv_astore_n (lv' := [(3, .ref q9), (0, .ref (o 0)), (1, .int z), (2, .ref aO)]) hx hb dL_step_12 rfl hl (by decide) rfl (fun ls hl => ?_)
      refine lv_iconst (v := nI 1) hx hb dL_step_13 (by decide) ?_
      exact W.iret hx hb hr (fun t9 ht9 _ => ⟨⟨_, (aO, .inl (cJ, 1, .inr (.inl fo))) :: w, rfl, ⟨1, w, fo, rfl, Or.inr (Or.inl ⟨hn9, rfl⟩), rfl, fun q => absurd q (by decide), fun _ => hw⟩, by show va_P D vwCl _ t9.heap; rw [ht9]; exact hP⟩, hS.F ht9⟩) hS.2.2 dL_step_14
    · exact absurd trivial hn9
    · exact absurd trivial hn9
  · have hsw : List.Perm (α := Nat × va_E) (w1 ++ [(aO, .inl (cJ, 1, .inr (.inl fo)))]) ((aO, .inl (cJ, 1, .inr (.inl fo))) :: w1) := (lz_pc _ w1).symm
    replace hP := lz_permP hsw hP
    replace hD := lz_permD hsw hD
    obtain ⟨hp1, rfl, hw9⟩ := hpo
    refine lv_i2l (v := (nI (sT x + tn z)).toInt64) hx hb dL_step_7 rfl ?_
    refine lz_last hx hb hKJ hP hD hS dL_step_8 (fun H locs hP hD hS => ?_)
    refine lv_goto (tgt := 15) hx hb dL_step_9 (by decide) ?_
    refine lv_iconst (v := nI 0) hx hb dL_step_15 (by decide) ?_
    exact W.iret hx hb hr (fun t9 ht9 _ => ⟨⟨_, (aO, .inl (cJ, 1, .inr (.inl (vp_updL fo 0 (nI (sT x + tn z)).toInt64)))) :: w1, rfl, ⟨0, w1, _, rfl, Or.inl ⟨hp1, trivial, trivial, rfl⟩, rfl, fun _ => ⟨rfl, hw9⟩, fun q => absurd rfl q⟩, by show va_P D vwCl _ t9.heap; rw [ht9]; exact hP⟩, hS.F ht9⟩) hS.2.2 dL_step_16

set_option maxRecDepth 100000 in
set_option maxHeartbeats 4000000 in
/-- back -/
theorem c_L_back {z : Int32}  {fo : Nat → Int64} (hw : WC cI cF cQ o n ev R x w) (hx0 : Ok n ev R x) (hs : srt (sL x)) : Met l yL_back wsL_back (rmk 10 8 48) (pcL l D cI cF cQ aT cJ cD [.ref (o 0), .int z, .ref aO] ((aO, .inl (cJ, 1, .inr (.inl fo))) :: w) sz) (va_Qi (fun (r : Int32) (w1 : va_W) => ∃ (k : Nat) (wC : va_W) (g : Nat → Int64), r = nI k ∧ cdR (plc (sS x) z.toInt ≠ none) True True k ∧ w1 = (aO, .inl (cJ, 1, .inr (.inl g))) :: wC ∧ (k = 0 → g 0 = (bkv (sS x) z.toInt).toInt64 ∧ WC cI cF cQ o n ev R (gbz n x z.toInt) wC) ∧ (k ≠ 0 → WC cI cF cQ o n ev R x wC)) (fun w1 t => va_P D vwCl w1 t.heap) (va_A ((aO, .inl (cJ, 1, .inr (.inl fo))) :: w) sz)) 8 48 (va_A ((aO, .inl (cJ, 1, .inr (.inl fo))) :: w) sz) := by
  refine lz_ofH (Qf := fun A => va_Qi (fun (r : Int32) (w1 : va_W) => ∃ (k : Nat) (wC : va_W) (g : Nat → Int64), r = nI k ∧ cdR (plc (sS x) z.toInt ≠ none) True True k ∧ w1 = (aO, .inl (cJ, 1, .inr (.inl g))) :: wC ∧ (k = 0 → g 0 = (bkv (sS x) z.toInt).toInt64 ∧ WC cI cF cQ o n ev R (gbz n x z.toInt) wC) ∧ (k ≠ 0 → WC cI cF cQ o n ev R x wC)) (fun w1 t => va_P D vwCl w1 t.heap) A) (cc := cL_back) (maxL := 4) (ret := (some .int)) (hh := [(0, 9, 12, 13)]) (by decide) rfl (Nat.le_of_ble_eq_true rfl) ?_
  intro p e s m below meth c A hAe hsz htab hx hb hr hlk hC hKJ hP hD hS ls hl
  clear hAe
  have hts := hC.1.2.2.2.2
  have hown : s.vm.findClass RL = some m.cls := hC.1.2.2.2.1
  have hml := hC.1.2.2.1
  have hA := hC.2.1
  have hK := hC.2.2.2.1
  have hnm := hC.2.2.2.2.1
  have hnf := hC.2.2.2.2.2.1
  have hl : lv_has ls 4 [(0, .ref (o 0)), (1, .int z), (2, .ref aO)] := hl
  have hw2 : o 0 = o 0 := rfl
  refine lv_aload_n hx hb dL_back_0 rfl (lv_at hl 2 rfl) ?_
  refine lv_iconst (v := nI 0) hx hb dL_back_1 (by decide) ?_
  refine lv_aload_n hx hb dL_back_2 rfl (lv_at hl 0 rfl) ?_
  refine lv_iload_n hx hb dL_back_3 rfl (lv_at hl 1 rfl) ?_
  obtain ⟨wD, wR, wS, hWD, hWR, hWS, hwe⟩ := id hw
  have hpe : List.Perm (α := Nat × va_E) ((aO, .inl (cJ, 1, .inr (.inl fo))) :: w) (w ++ [(aO, .inl (cJ, 1, .inr (.inl fo)))]) := lz_pc _ w
  have hPc : va_P D vwCl w _ := lz_cutP hpe hP
  have hDc : va_D A w := lz_cutD hpe hD
  have hPr := id hPc
  rw [hwe] at hPr
  refine lx_cPi (lx_runV (C := RX3) (As := [.int z]) (rest := [.int (nI 0), .ref aO]) hC hS hl (c_X3_back hw hx0 hs) (cwV 1 hts gL_back_X3_back rfl rfl rfl (by decide +kernel) ⟨Nat.le_of_ble_eq_true rfl, Nat.le_of_ble_eq_true rfl⟩) hPc hDc (va_recv hK hPr (ci := 3) (q0 := 0) rfl rfl) rfl rfl (Nat.le_of_ble_eq_true rfl) dL_back_4 ⟨Nat.le_of_ble_eq_true rfl, Nat.le_of_ble_eq_true rfl⟩) hP hD hS hA hpe (fun r w1 h => h.2.2.ad2 hw) (fun E9 ce9 q9 H locs hE9 hP hD hS h91 h92 h93 => ?_) (fun r9 w1 H locs hpo hP hD hS => ?_)
  · have hsw : List.Perm (α := Nat × va_E) (w ++ [(aO, .inl (cJ, 1, .inr (.inl fo)))]) ((aO, .inl (cJ, 1, .inr (.inl fo))) :: w) := (lz_pc _ w).symm
    replace hP := lz_permP hsw hP
    replace hD := lz_permD hsw hD
    obtain ⟨-, -, -, -, hca, -, -, -, hN1, hN2, hN3, -⟩ := hC.2.2.2
    rcases hE9 with ⟨rfl, hn9⟩ | ⟨rfl, hp1, hn9⟩ | ⟨rfl, hp1, hp2, hn9⟩
    · refine vx_catch (own := RL) (name := eI) (E := eI) hown [] ⟨0, 9, 12, 13⟩ [] htab (fun z9 hz9 => nomatch hz9) (by decide) (by decide) (hts (.classLink RL 13 "java/lang/IndexOutOfBoundsException") (List.mem_of_getElem? (i := 1) rfl)) (va_Nw.use rfl (hca.1 eI (by decide))) h91 h92 h93 ?_
      show W p l e _ s m _ below meth c _ _ _ _ _ (F0 m 12 ls [.ref q9])
      refine lv_astore_n (lv' := [(3, .ref q9), (0, .ref (o 0)), (1, .int z), (2, .ref aO)]) hx hb dL_back_12 rfl hl (by decide) rfl (fun ls hl => ?_)
      refine lv_iconst (v := nI 1) hx hb dL_back_13 (by decide) ?_
      exact W.iret hx hb hr (fun t9 ht9 _ => ⟨⟨_, (aO, .inl (cJ, 1, .inr (.inl fo))) :: w, rfl, ⟨1, w, fo, rfl, Or.inr (Or.inl ⟨hn9, rfl⟩), rfl, fun q => absurd q (by decide), fun _ => hw⟩, by show va_P D vwCl _ t9.heap; rw [ht9]; exact hP⟩, hS.F ht9⟩) hS.2.2 dL_back_14
    · exact absurd trivial hn9
    · exact absurd trivial hn9
  · have hsw : List.Perm (α := Nat × va_E) (w1 ++ [(aO, .inl (cJ, 1, .inr (.inl fo)))]) ((aO, .inl (cJ, 1, .inr (.inl fo))) :: w1) := (lz_pc _ w1).symm
    replace hP := lz_permP hsw hP
    replace hD := lz_permD hsw hD
    obtain ⟨hp1, rfl, hw9⟩ := hpo
    refine lv_i2l (v := (bkv (sS x) z.toInt).toInt64) hx hb dL_back_7 rfl ?_
    refine lz_last hx hb hKJ hP hD hS dL_back_8 (fun H locs hP hD hS => ?_)
    refine lv_goto (tgt := 15) hx hb dL_back_9 (by decide) ?_
    refine lv_iconst (v := nI 0) hx hb dL_back_15 (by decide) ?_
    exact W.iret hx hb hr (fun t9 ht9 _ => ⟨⟨_, (aO, .inl (cJ, 1, .inr (.inl (vp_updL fo 0 (bkv (sS x) z.toInt).toInt64)))) :: w1, rfl, ⟨0, w1, _, rfl, Or.inl ⟨hp1, trivial, trivial, rfl⟩, rfl, fun _ => ⟨rfl, hw9⟩, fun q => absurd rfl q⟩, by show va_P D vwCl _ t9.heap; rw [ht9]; exact hP⟩, hS.F ht9⟩) hS.2.2 dL_back_16

set_option maxRecDepth 100000 in
set_option maxHeartbeats 4000000 in
/-- forget -/
theorem c_L_forget {z : Int32}  {fo : Nat → Int64} (hw : WC cI cF cQ o n ev R x w) (hx0 : Ok n ev R x) (hs : srt (sL x)) : Met l yL_forget wsL_forget (rmk 10 8 48) (pcL l D cI cF cQ aT cJ cD [.ref (o 0), .int z, .ref aO] ((aO, .inl (cJ, 1, .inr (.inl fo))) :: w) sz) (va_Qi (fun (r : Int32) (w1 : va_W) => ∃ (k : Nat) (wC : va_W) (g : Nat → Int64), r = nI k ∧ cdR ((sT x : Int) ≤ z.toInt) True True k ∧ w1 = (aO, .inl (cJ, 1, .inr (.inl g))) :: wC ∧ (k = 0 → g 0 = (nI ((sL x).length - cb (sL x) z.toInt)).toInt64 ∧ WC cI cF cQ o n ev R (stL x ((sL x).filter (fun e => decide ((e.1 : Int) < z.toInt)))) wC) ∧ (k ≠ 0 → WC cI cF cQ o n ev R x wC)) (fun w1 t => va_P D vwCl w1 t.heap) (va_A ((aO, .inl (cJ, 1, .inr (.inl fo))) :: w) sz)) 8 48 (va_A ((aO, .inl (cJ, 1, .inr (.inl fo))) :: w) sz) := by
  refine lz_ofH (Qf := fun A => va_Qi (fun (r : Int32) (w1 : va_W) => ∃ (k : Nat) (wC : va_W) (g : Nat → Int64), r = nI k ∧ cdR ((sT x : Int) ≤ z.toInt) True True k ∧ w1 = (aO, .inl (cJ, 1, .inr (.inl g))) :: wC ∧ (k = 0 → g 0 = (nI ((sL x).length - cb (sL x) z.toInt)).toInt64 ∧ WC cI cF cQ o n ev R (stL x ((sL x).filter (fun e => decide ((e.1 : Int) < z.toInt)))) wC) ∧ (k ≠ 0 → WC cI cF cQ o n ev R x wC)) (fun w1 t => va_P D vwCl w1 t.heap) A) (cc := cL_forget) (maxL := 4) (ret := (some .int)) (hh := [(0, 9, 12, 15)]) (by decide) rfl (Nat.le_of_ble_eq_true rfl) ?_
  intro p e s m below meth c A hAe hsz htab hx hb hr hlk hC hKJ hP hD hS ls hl
  clear hAe
  have hts := hC.1.2.2.2.2
  have hown : s.vm.findClass RL = some m.cls := hC.1.2.2.2.1
  have hml := hC.1.2.2.1
  have hA := hC.2.1
  have hK := hC.2.2.2.1
  have hnm := hC.2.2.2.2.1
  have hnf := hC.2.2.2.2.2.1
  have hl : lv_has ls 4 [(0, .ref (o 0)), (1, .int z), (2, .ref aO)] := hl
  have hw2 : o 0 = o 0 := rfl
  refine lv_aload_n hx hb dL_forget_0 rfl (lv_at hl 2 rfl) ?_
  refine lv_iconst (v := nI 0) hx hb dL_forget_1 (by decide) ?_
  refine lv_aload_n hx hb dL_forget_2 rfl (lv_at hl 0 rfl) ?_
  refine lv_iload_n hx hb dL_forget_3 rfl (lv_at hl 1 rfl) ?_
  obtain ⟨wD, wR, wS, hWD, hWR, hWS, hwe⟩ := id hw
  have hpe : List.Perm (α := Nat × va_E) ((aO, .inl (cJ, 1, .inr (.inl fo))) :: w) (w ++ [(aO, .inl (cJ, 1, .inr (.inl fo)))]) := lz_pc _ w
  have hPc : va_P D vwCl w _ := lz_cutP hpe hP
  have hDc : va_D A w := lz_cutD hpe hD
  have hPr := id hPc
  rw [hwe] at hPr
  refine lx_cPi (lx_runV (C := RX3) (As := [.int z]) (rest := [.int (nI 0), .ref aO]) hC hS hl (c_X3_forget hw hx0 hs) (cwV 1 hts gL_forget_X3_forget rfl rfl rfl (by decide +kernel) ⟨Nat.le_of_ble_eq_true rfl, Nat.le_of_ble_eq_true rfl⟩) hPc hDc (va_recv hK hPr (ci := 3) (q0 := 0) rfl rfl) rfl rfl (Nat.le_of_ble_eq_true rfl) dL_forget_4 ⟨Nat.le_of_ble_eq_true rfl, Nat.le_of_ble_eq_true rfl⟩) hP hD hS hA hpe (fun r w1 h => h.2.2.ad2 hw) (fun E9 ce9 q9 H locs hE9 hP hD hS h91 h92 h93 => ?_) (fun r9 w1 H locs hpo hP hD hS => ?_)
  · have hsw : List.Perm (α := Nat × va_E) (w ++ [(aO, .inl (cJ, 1, .inr (.inl fo)))]) ((aO, .inl (cJ, 1, .inr (.inl fo))) :: w) := (lz_pc _ w).symm
    replace hP := lz_permP hsw hP
    replace hD := lz_permD hsw hD
    obtain ⟨-, -, -, -, hca, -, -, -, hN1, hN2, hN3, -⟩ := hC.2.2.2
    rcases hE9 with ⟨rfl, hn9⟩ | ⟨rfl, hp1, hn9⟩ | ⟨rfl, hp1, hp2, hn9⟩
    · refine vx_catch (own := RL) (name := eA) (E := eA) hown [] ⟨0, 9, 12, 15⟩ [] htab (fun z9 hz9 => nomatch hz9) (by decide) (by decide) (hts (.classLink RL 15 "java/lang/IllegalArgumentException") (List.mem_of_getElem? (i := 1) rfl)) (va_Nw.use rfl (hca.1 eA (by decide))) h91 h92 h93 ?_
      show W p l e _ s m _ below meth c _ _ _ _ _ (F0 m 12 ls [.ref q9])
      refine lv_astore_n (lv' := [(3, .ref q9), (0, .ref (o 0)), (1, .int z), (2, .ref aO)]) hx hb dL_forget_12 rfl hl (by decide) rfl (fun ls hl => ?_)
      refine lv_iconst (v := nI 1) hx hb dL_forget_13 (by decide) ?_
      exact W.iret hx hb hr (fun t9 ht9 _ => ⟨⟨_, (aO, .inl (cJ, 1, .inr (.inl fo))) :: w, rfl, ⟨1, w, fo, rfl, Or.inr (Or.inl ⟨hn9, rfl⟩), rfl, fun q => absurd q (by decide), fun _ => hw⟩, by show va_P D vwCl _ t9.heap; rw [ht9]; exact hP⟩, hS.F ht9⟩) hS.2.2 dL_forget_14
    · exact absurd trivial hn9
    · exact absurd trivial hn9
  · have hsw : List.Perm (α := Nat × va_E) (w1 ++ [(aO, .inl (cJ, 1, .inr (.inl fo)))]) ((aO, .inl (cJ, 1, .inr (.inl fo))) :: w1) := (lz_pc _ w1).symm
    replace hP := lz_permP hsw hP
    replace hD := lz_permD hsw hD
    obtain ⟨hp1, rfl, hw9⟩ := hpo
    refine lv_i2l (v := (nI ((sL x).length - cb (sL x) z.toInt)).toInt64) hx hb dL_forget_7 rfl ?_
    refine lz_last hx hb hKJ hP hD hS dL_forget_8 (fun H locs hP hD hS => ?_)
    refine lv_goto (tgt := 15) hx hb dL_forget_9 (by decide) ?_
    refine lv_iconst (v := nI 0) hx hb dL_forget_15 (by decide) ?_
    exact W.iret hx hb hr (fun t9 ht9 _ => ⟨⟨_, (aO, .inl (cJ, 1, .inr (.inl (vp_updL fo 0 (nI ((sL x).length - cb (sL x) z.toInt)).toInt64)))) :: w1, rfl, ⟨0, w1, _, rfl, Or.inl ⟨hp1, trivial, trivial, rfl⟩, rfl, fun _ => ⟨rfl, hw9⟩, fun q => absurd rfl q⟩, by show va_P D vwCl _ t9.heap; rw [ht9]; exact hP⟩, hS.F ht9⟩) hS.2.2 dL_forget_16

set_option maxRecDepth 100000 in
set_option maxHeartbeats 4000000 in
/-- late -/
theorem c_L_late {t z q : Int32} {v : UInt32}  {fo : Nat → Int64} (hw : WC cI cF cQ o n ev R x w) (hx0 : Ok n ev R x) (hs : srt (sL x)) : Met l yL_late wsL_late (rmk 10 8 48) (pcL l D cI cF cQ aT cJ cD [.ref (o 0), .int t, .int z, .int q, .float v, .ref aO] ((aO, .inl (cJ, 1, .inr (.inl fo))) :: w) sz) (va_Qi (fun (r : Int32) (w1 : va_W) => ∃ (k : Nat) (wC : va_W) (g : Nat → Int64), r = nI k ∧ cdR (kn n z) (okW q v ∧ 0 ≤ t.toInt ∧ t.toInt ≤ (sT x : Int)) (1 + (sL x).length ≤ 512 ∧ 0 < hsn (sS x) t.toInt) k ∧ w1 = (aO, .inl (cJ, 1, .inr (.inl g))) :: wC ∧ (k = 0 → g 0 = (ltv (sS x) (sT x) t.toInt).toInt64 ∧ WC cI cF cQ o n ev R (ltx n R ev (stL x (rins (sL x) (tn t, tn z, tn q, v))) t.toInt) wC) ∧ (k ≠ 0 → WC cI cF cQ o n ev R x wC)) (fun w1 t => va_P D vwCl w1 t.heap) (va_A ((aO, .inl (cJ, 1, .inr (.inl fo))) :: w) sz)) 8 48 (va_A ((aO, .inl (cJ, 1, .inr (.inl fo))) :: w) sz) := by
  refine lz_ofH (Qf := fun A => va_Qi (fun (r : Int32) (w1 : va_W) => ∃ (k : Nat) (wC : va_W) (g : Nat → Int64), r = nI k ∧ cdR (kn n z) (okW q v ∧ 0 ≤ t.toInt ∧ t.toInt ≤ (sT x : Int)) (1 + (sL x).length ≤ 512 ∧ 0 < hsn (sS x) t.toInt) k ∧ w1 = (aO, .inl (cJ, 1, .inr (.inl g))) :: wC ∧ (k = 0 → g 0 = (ltv (sS x) (sT x) t.toInt).toInt64 ∧ WC cI cF cQ o n ev R (ltx n R ev (stL x (rins (sL x) (tn t, tn z, tn q, v))) t.toInt) wC) ∧ (k ≠ 0 → WC cI cF cQ o n ev R x wC)) (fun w1 t => va_P D vwCl w1 t.heap) A) (cc := cL_late) (maxL := 7) (ret := (some .int)) (hh := [(0, 14, 17, 13), (0, 14, 21, 15), (0, 14, 25, 17)]) (by decide) rfl (Nat.le_of_ble_eq_true rfl) ?_
  intro p e s m below meth c A hAe hsz htab hx hb hr hlk hC hKJ hP hD hS ls hl
  clear hAe
  have hts := hC.1.2.2.2.2
  have hown : s.vm.findClass RL = some m.cls := hC.1.2.2.2.1
  have hml := hC.1.2.2.1
  have hA := hC.2.1
  have hK := hC.2.2.2.1
  have hnm := hC.2.2.2.2.1
  have hnf := hC.2.2.2.2.2.1
  have hl : lv_has ls 7 [(0, .ref (o 0)), (1, .int t), (2, .int z), (3, .int q), (4, .float v), (5, .ref aO)] := hl
  have hw2 : o 0 = o 0 := rfl
  refine lv_aload hx hb dL_late_0 (lv_at hl 5 rfl) ?_
  refine lv_iconst (v := nI 0) hx hb dL_late_2 (by decide) ?_
  refine lv_aload_n hx hb dL_late_3 rfl (lv_at hl 0 rfl) ?_
  refine lv_iload_n hx hb dL_late_4 rfl (lv_at hl 1 rfl) ?_
  refine lv_iload_n hx hb dL_late_5 rfl (lv_at hl 2 rfl) ?_
  refine lv_iload_n hx hb dL_late_6 rfl (lv_at hl 3 rfl) ?_
  refine lv_fload hx hb dL_late_7 (lv_at hl 4 rfl) ?_
  obtain ⟨wD, wR, wS, hWD, hWR, hWS, hwe⟩ := id hw
  have hpe : List.Perm (α := Nat × va_E) ((aO, .inl (cJ, 1, .inr (.inl fo))) :: w) (w ++ [(aO, .inl (cJ, 1, .inr (.inl fo)))]) := lz_pc _ w
  have hPc : va_P D vwCl w _ := lz_cutP hpe hP
  have hDc : va_D A w := lz_cutD hpe hD
  have hPr := id hPc
  rw [hwe] at hPr
  refine lx_cPi (lx_runV (C := RX3) (As := [.int t, .int z, .int q, .float v]) (rest := [.int (nI 0), .ref aO]) hC hS hl (c_X3_late hw hx0 hs) (cwV 4 hts gL_late_X3_late rfl rfl rfl (by decide +kernel) ⟨Nat.le_of_ble_eq_true rfl, Nat.le_of_ble_eq_true rfl⟩) hPc hDc (va_recv hK hPr (ci := 3) (q0 := 0) rfl rfl) rfl rfl (Nat.le_of_ble_eq_true rfl) dL_late_9 ⟨Nat.le_of_ble_eq_true rfl, Nat.le_of_ble_eq_true rfl⟩) hP hD hS hA hpe (fun r w1 h => h.2.2.2.2.ad2 hw) (fun E9 ce9 q9 H locs hE9 hP hD hS h91 h92 h93 => ?_) (fun r9 w1 H locs hpo hP hD hS => ?_)
  · have hsw : List.Perm (α := Nat × va_E) (w ++ [(aO, .inl (cJ, 1, .inr (.inl fo)))]) ((aO, .inl (cJ, 1, .inr (.inl fo))) :: w) := (lz_pc _ w).symm
    replace hP := lz_permP hsw hP
    replace hD := lz_permD hsw hD
    obtain ⟨-, -, -, -, hca, -, -, -, hN1, hN2, hN3, -⟩ := hC.2.2.2
    rcases hE9 with ⟨rfl, hn9⟩ | ⟨rfl, hp1, hn9⟩ | ⟨rfl, hp1, hp2, hn9⟩
    · refine vx_catch (own := RL) (name := eI) (E := eI) hown [] ⟨0, 14, 17, 13⟩ [⟨0, 14, 21, 15⟩, ⟨0, 14, 25, 17⟩] htab (fun z9 hz9 => nomatch hz9) (by decide) (by decide) (hts (.classLink RL 13 "java/lang/IndexOutOfBoundsException") (List.mem_of_getElem? (i := 1) rfl)) (va_Nw.use rfl (hca.1 eI (by decide))) h91 h92 h93 ?_
      show W p l e _ s m _ below meth c _ _ _ _ _ (F0 m 17 ls [.ref q9])
      refine lv_astore (lv' := [(6, .ref q9), (0, .ref (o 0)), (1, .int t), (2, .int z), (3, .int q), (4, .float v), (5, .ref aO)]) hx hb dL_late_17 hl (by decide) rfl (fun ls hl => ?_)
      refine lv_iconst (v := nI 1) hx hb dL_late_19 (by decide) ?_
      exact W.iret hx hb hr (fun t9 ht9 _ => ⟨⟨_, (aO, .inl (cJ, 1, .inr (.inl fo))) :: w, rfl, ⟨1, w, fo, rfl, Or.inr (Or.inl ⟨hn9, rfl⟩), rfl, fun q => absurd q (by decide), fun _ => hw⟩, by show va_P D vwCl _ t9.heap; rw [ht9]; exact hP⟩, hS.F ht9⟩) hS.2.2 dL_late_20
    · refine vx_catch (own := RL) (name := eA) (E := eA) hown [⟨0, 14, 17, 13⟩] ⟨0, 14, 21, 15⟩ [⟨0, 14, 25, 17⟩] htab (fun z9 hz9 => by
        rw [List.mem_singleton.mp hz9]
        exact Or.inr ⟨by decide, eI, (hts (.classLink RL 13 "java/lang/IndexOutOfBoundsException") (List.mem_of_getElem? (i := 1) rfl)), hN1⟩) (by decide) (by decide) (hts (.classLink RL 15 "java/lang/IllegalArgumentException") (List.mem_of_getElem? (i := 2) rfl)) (va_Nw.use rfl (hca.1 eA (by decide))) h91 h92 h93 ?_
      show W p l e _ s m _ below meth c _ _ _ _ _ (F0 m 21 ls [.ref q9])
      refine lv_astore (lv' := [(6, .ref q9), (0, .ref (o 0)), (1, .int t), (2, .int z), (3, .int q), (4, .float v), (5, .ref aO)]) hx hb dL_late_21 hl (by decide) rfl (fun ls hl => ?_)
      refine lv_iconst (v := nI 2) hx hb dL_late_23 (by decide) ?_
      exact W.iret hx hb hr (fun t9 ht9 _ => ⟨⟨_, (aO, .inl (cJ, 1, .inr (.inl fo))) :: w, rfl, ⟨2, w, fo, rfl, Or.inr (Or.inr (Or.inl ⟨hp1, hn9, rfl⟩)), rfl, fun q => absurd q (by decide), fun _ => hw⟩, by show va_P D vwCl _ t9.heap; rw [ht9]; exact hP⟩, hS.F ht9⟩) hS.2.2 dL_late_24
    · refine vx_catch (own := RL) (name := eS) (E := eS) hown [⟨0, 14, 17, 13⟩, ⟨0, 14, 21, 15⟩] ⟨0, 14, 25, 17⟩ [] htab (fun z9 hz9 => by
        rcases List.mem_cons.mp hz9 with rfl | hz9
        · exact Or.inr ⟨by decide, eI, (hts (.classLink RL 13 "java/lang/IndexOutOfBoundsException") (List.mem_of_getElem? (i := 1) rfl)), hN2⟩
        · rw [List.mem_singleton.mp hz9]
          exact Or.inr ⟨by decide, eA, (hts (.classLink RL 15 "java/lang/IllegalArgumentException") (List.mem_of_getElem? (i := 2) rfl)), hN3⟩) (by decide) (by decide) (hts (.classLink RL 17 "java/lang/IllegalStateException") (List.mem_of_getElem? (i := 3) rfl)) (va_Nw.use rfl (hca.1 eS (by decide))) h91 h92 h93 ?_
      show W p l e _ s m _ below meth c _ _ _ _ _ (F0 m 25 ls [.ref q9])
      refine lv_astore (lv' := [(6, .ref q9), (0, .ref (o 0)), (1, .int t), (2, .int z), (3, .int q), (4, .float v), (5, .ref aO)]) hx hb dL_late_25 hl (by decide) rfl (fun ls hl => ?_)
      refine lv_iconst (v := nI 3) hx hb dL_late_27 (by decide) ?_
      exact W.iret hx hb hr (fun t9 ht9 _ => ⟨⟨_, (aO, .inl (cJ, 1, .inr (.inl fo))) :: w, rfl, ⟨3, w, fo, rfl, Or.inr (Or.inr (Or.inr ⟨hp1, hp2, hn9, rfl⟩)), rfl, fun q => absurd q (by decide), fun _ => hw⟩, by show va_P D vwCl _ t9.heap; rw [ht9]; exact hP⟩, hS.F ht9⟩) hS.2.2 dL_late_28
  · have hsw : List.Perm (α := Nat × va_E) (w1 ++ [(aO, .inl (cJ, 1, .inr (.inl fo)))]) ((aO, .inl (cJ, 1, .inr (.inl fo))) :: w1) := (lz_pc _ w1).symm
    replace hP := lz_permP hsw hP
    replace hD := lz_permD hsw hD
    obtain ⟨hp1, hp2, hp3, rfl, hw9⟩ := hpo
    refine lv_i2l (v := (ltv (sS x) (sT x) t.toInt).toInt64) hx hb dL_late_12 rfl ?_
    refine lz_last hx hb hKJ hP hD hS dL_late_13 (fun H locs hP hD hS => ?_)
    refine lv_goto (tgt := 29) hx hb dL_late_14 (by decide) ?_
    refine lv_iconst (v := nI 0) hx hb dL_late_29 (by decide) ?_
    exact W.iret hx hb hr (fun t9 ht9 _ => ⟨⟨_, (aO, .inl (cJ, 1, .inr (.inl (vp_updL fo 0 (ltv (sS x) (sT x) t.toInt).toInt64)))) :: w1, rfl, ⟨0, w1, _, rfl, Or.inl ⟨hp1, hp2, hp3, rfl⟩, rfl, fun _ => ⟨rfl, hw9⟩, fun q => absurd rfl q⟩, by show va_P D vwCl _ t9.heap; rw [ht9]; exact hP⟩, hS.F ht9⟩) hS.2.2 dL_late_30

set_option maxRecDepth 100000 in
set_option maxHeartbeats 4000000 in
/-- cell -/
theorem c_L_cell_ {z : Int32}  {fo : Nat → UInt64} (hw : WC cI cF cQ o n ev R x w) (hx0 : Ok n ev R x) (hs : srt (sL x)) : Met l yL_cell_ wsL_cell_ (rmk 10 8 48) (pcL l D cI cF cQ aT cJ cD [.ref (o 0), .int z, .ref aO] ((aO, .inl (cD, 1, .inr (.inr (.inr (.inl fo))))) :: w) sz) (va_Qi (fun (r : Int32) (w1 : va_W) => ∃ (k : Nat) (wC : va_W) (g : Nat → UInt64), r = nI k ∧ cdR (kn n z) True True k ∧ w1 = (aO, .inl (cD, 1, .inr (.inr (.inr (.inl g))))) :: wC ∧ (k = 0 → g 0 = FP.f2d (sc x (tn z)) ∧ WC cI cF cQ o n ev R x wC) ∧ (k ≠ 0 → WC cI cF cQ o n ev R x wC)) (fun w1 t => va_P D vwCl w1 t.heap) (va_A ((aO, .inl (cD, 1, .inr (.inr (.inr (.inl fo))))) :: w) sz)) 8 48 (va_A ((aO, .inl (cD, 1, .inr (.inr (.inr (.inl fo))))) :: w) sz) := by
  refine lz_ofH (Qf := fun A => va_Qi (fun (r : Int32) (w1 : va_W) => ∃ (k : Nat) (wC : va_W) (g : Nat → UInt64), r = nI k ∧ cdR (kn n z) True True k ∧ w1 = (aO, .inl (cD, 1, .inr (.inr (.inr (.inl g))))) :: wC ∧ (k = 0 → g 0 = FP.f2d (sc x (tn z)) ∧ WC cI cF cQ o n ev R x wC) ∧ (k ≠ 0 → WC cI cF cQ o n ev R x wC)) (fun w1 t => va_P D vwCl w1 t.heap) A) (cc := cL_cell_) (maxL := 4) (ret := (some .int)) (hh := [(0, 9, 12, 13)]) (by decide) rfl (Nat.le_of_ble_eq_true rfl) ?_
  intro p e s m below meth c A hAe hsz htab hx hb hr hlk hC hKJ hP hD hS ls hl
  clear hAe
  have hts := hC.1.2.2.2.2
  have hown : s.vm.findClass RL = some m.cls := hC.1.2.2.2.1
  have hml := hC.1.2.2.1
  have hA := hC.2.1
  have hK := hC.2.2.2.1
  have hnm := hC.2.2.2.2.1
  have hnf := hC.2.2.2.2.2.1
  have hl : lv_has ls 4 [(0, .ref (o 0)), (1, .int z), (2, .ref aO)] := hl
  have hw2 : o 0 = o 0 := rfl
  refine lv_aload_n hx hb dL_cell__0 rfl (lv_at hl 2 rfl) ?_
  refine lv_iconst (v := nI 0) hx hb dL_cell__1 (by decide) ?_
  refine lv_aload_n hx hb dL_cell__2 rfl (lv_at hl 0 rfl) ?_
  refine lv_iload_n hx hb dL_cell__3 rfl (lv_at hl 1 rfl) ?_
  obtain ⟨wD, wR, wS, hWD, hWR, hWS, hwe⟩ := id hw
  have hpe : List.Perm (α := Nat × va_E) ((aO, .inl (cD, 1, .inr (.inr (.inr (.inl fo))))) :: w) (w ++ [(aO, .inl (cD, 1, .inr (.inr (.inr (.inl fo)))))]) := lz_pc _ w
  have hPc : va_P D vwCl w _ := lz_cutP hpe hP
  have hDc : va_D A w := lz_cutD hpe hD
  have hPr := id hPc
  rw [hwe] at hPr
  refine lx_cPf (lx_runV (C := RX3) (As := [.int z]) (rest := [.int (nI 0), .ref aO]) hC hS hl (c_X3_cell hw hx0 hs) (cwV 1 hts gL_cell__X3_cell rfl rfl rfl (by decide +kernel) ⟨Nat.le_of_ble_eq_true rfl, Nat.le_of_ble_eq_true rfl⟩) hPc hDc (va_recv hK hPr (ci := 3) (q0 := 0) rfl rfl) rfl rfl (Nat.le_of_ble_eq_true rfl) dL_cell__4 ⟨Nat.le_of_ble_eq_true rfl, Nat.le_of_ble_eq_true rfl⟩) hP hD hS hA hpe (fun r w1 h => h.2.2.ad2 hw) (fun E9 ce9 q9 H locs hE9 hP hD hS h91 h92 h93 => ?_) (fun r9 w1 H locs hpo hP hD hS => ?_)
  · have hsw : List.Perm (α := Nat × va_E) (w ++ [(aO, .inl (cD, 1, .inr (.inr (.inr (.inl fo)))))]) ((aO, .inl (cD, 1, .inr (.inr (.inr (.inl fo))))) :: w) := (lz_pc _ w).symm
    replace hP := lz_permP hsw hP
    replace hD := lz_permD hsw hD
    obtain ⟨-, -, -, -, hca, -, -, -, hN1, hN2, hN3, -⟩ := hC.2.2.2
    rcases hE9 with ⟨rfl, hn9⟩ | ⟨rfl, hp1, hn9⟩ | ⟨rfl, hp1, hp2, hn9⟩
    · refine vx_catch (own := RL) (name := eI) (E := eI) hown [] ⟨0, 9, 12, 13⟩ [] htab (fun z9 hz9 => nomatch hz9) (by decide) (by decide) (hts (.classLink RL 13 "java/lang/IndexOutOfBoundsException") (List.mem_of_getElem? (i := 1) rfl)) (va_Nw.use rfl (hca.1 eI (by decide))) h91 h92 h93 ?_
      show W p l e _ s m _ below meth c _ _ _ _ _ (F0 m 12 ls [.ref q9])
      refine lv_astore_n (lv' := [(3, .ref q9), (0, .ref (o 0)), (1, .int z), (2, .ref aO)]) hx hb dL_cell__12 rfl hl (by decide) rfl (fun ls hl => ?_)
      refine lv_iconst (v := nI 1) hx hb dL_cell__13 (by decide) ?_
      exact W.iret hx hb hr (fun t9 ht9 _ => ⟨⟨_, (aO, .inl (cD, 1, .inr (.inr (.inr (.inl fo))))) :: w, rfl, ⟨1, w, fo, rfl, Or.inr (Or.inl ⟨hn9, rfl⟩), rfl, fun q => absurd q (by decide), fun _ => hw⟩, by show va_P D vwCl _ t9.heap; rw [ht9]; exact hP⟩, hS.F ht9⟩) hS.2.2 dL_cell__14
    · exact absurd trivial hn9
    · exact absurd trivial hn9
  · have hsw : List.Perm (α := Nat × va_E) (w1 ++ [(aO, .inl (cD, 1, .inr (.inr (.inr (.inl fo)))))]) ((aO, .inl (cD, 1, .inr (.inr (.inr (.inl fo))))) :: w1) := (lz_pc _ w1).symm
    replace hP := lz_permP hsw hP
    replace hD := lz_permD hsw hD
    obtain ⟨hp1, rfl, hw9⟩ := hpo
    refine lv_f2d hx hb dL_cell__7 (fl_f2d (hx0.2.2.2.1 _)) ?_
    refine lz_dast hx hb hKJ hP hD hS dL_cell__8 (fun H locs hP hD hS => ?_)
    refine lv_goto (tgt := 15) hx hb dL_cell__9 (by decide) ?_
    refine lv_iconst (v := nI 0) hx hb dL_cell__15 (by decide) ?_
    exact W.iret hx hb hr (fun t9 ht9 _ => ⟨⟨_, (aO, .inl (cD, 1, .inr (.inr (.inr (.inl (vf_upd fo 0 (FP.f2d (sc x (tn z))))))))) :: w1, rfl, ⟨0, w1, _, rfl, Or.inl ⟨hp1, trivial, trivial, rfl⟩, rfl, fun _ => ⟨rfl, hw9⟩, fun q => absurd rfl q⟩, by show va_P D vwCl _ t9.heap; rw [ht9]; exact hP⟩, hS.F ht9⟩) hS.2.2 dL_cell__16

set_option maxRecDepth 100000 in
set_option maxHeartbeats 4000000 in
/-- kept -/
theorem c_L_kept {z i : Int32}  {fo : Nat → UInt64} (hw : WC cI cF cQ o n ev R x w) (hx0 : Ok n ev R x) (hs : srt (sL x)) : Met l yL_kept wsL_kept (rmk 10 8 48) (pcL l D cI cF cQ aT cJ cD [.ref (o 0), .int z, .int i, .ref aO] ((aO, .inl (cD, 1, .inr (.inr (.inr (.inl fo))))) :: w) sz) (va_Qi (fun (r : Int32) (w1 : va_W) => ∃ (k : Nat) (wC : va_W) (g : Nat → UInt64), r = nI k ∧ cdR (kn n i ∧ plc (sS x) z.toInt ≠ none) True True k ∧ w1 = (aO, .inl (cD, 1, .inr (.inr (.inr (.inl g))))) :: wC ∧ (k = 0 → g 0 = FP.f2d (sgt (sS x) z.toInt (tn i)) ∧ WC cI cF cQ o n ev R x wC) ∧ (k ≠ 0 → WC cI cF cQ o n ev R x wC)) (fun w1 t => va_P D vwCl w1 t.heap) (va_A ((aO, .inl (cD, 1, .inr (.inr (.inr (.inl fo))))) :: w) sz)) 8 48 (va_A ((aO, .inl (cD, 1, .inr (.inr (.inr (.inl fo))))) :: w) sz) := by
  refine lz_ofH (Qf := fun A => va_Qi (fun (r : Int32) (w1 : va_W) => ∃ (k : Nat) (wC : va_W) (g : Nat → UInt64), r = nI k ∧ cdR (kn n i ∧ plc (sS x) z.toInt ≠ none) True True k ∧ w1 = (aO, .inl (cD, 1, .inr (.inr (.inr (.inl g))))) :: wC ∧ (k = 0 → g 0 = FP.f2d (sgt (sS x) z.toInt (tn i)) ∧ WC cI cF cQ o n ev R x wC) ∧ (k ≠ 0 → WC cI cF cQ o n ev R x wC)) (fun w1 t => va_P D vwCl w1 t.heap) A) (cc := cL_kept) (maxL := 5) (ret := (some .int)) (hh := [(0, 10, 13, 13)]) (by decide) rfl (Nat.le_of_ble_eq_true rfl) ?_
  intro p e s m below meth c A hAe hsz htab hx hb hr hlk hC hKJ hP hD hS ls hl
  clear hAe
  have hts := hC.1.2.2.2.2
  have hown : s.vm.findClass RL = some m.cls := hC.1.2.2.2.1
  have hml := hC.1.2.2.1
  have hA := hC.2.1
  have hK := hC.2.2.2.1
  have hnm := hC.2.2.2.2.1
  have hnf := hC.2.2.2.2.2.1
  have hl : lv_has ls 5 [(0, .ref (o 0)), (1, .int z), (2, .int i), (3, .ref aO)] := hl
  have hw2 : o 0 = o 0 := rfl
  refine lv_aload_n hx hb dL_kept_0 rfl (lv_at hl 3 rfl) ?_
  refine lv_iconst (v := nI 0) hx hb dL_kept_1 (by decide) ?_
  refine lv_aload_n hx hb dL_kept_2 rfl (lv_at hl 0 rfl) ?_
  refine lv_iload_n hx hb dL_kept_3 rfl (lv_at hl 1 rfl) ?_
  refine lv_iload_n hx hb dL_kept_4 rfl (lv_at hl 2 rfl) ?_
  obtain ⟨wD, wR, wS, hWD, hWR, hWS, hwe⟩ := id hw
  have hpe : List.Perm (α := Nat × va_E) ((aO, .inl (cD, 1, .inr (.inr (.inr (.inl fo))))) :: w) (w ++ [(aO, .inl (cD, 1, .inr (.inr (.inr (.inl fo)))))]) := lz_pc _ w
  have hPc : va_P D vwCl w _ := lz_cutP hpe hP
  have hDc : va_D A w := lz_cutD hpe hD
  have hPr := id hPc
  rw [hwe] at hPr
  refine lx_cPf (lx_runV (C := RX3) (As := [.int z, .int i]) (rest := [.int (nI 0), .ref aO]) hC hS hl (c_X3_kept hw hx0 hs) (cwV 2 hts gL_kept_X3_kept rfl rfl rfl (by decide +kernel) ⟨Nat.le_of_ble_eq_true rfl, Nat.le_of_ble_eq_true rfl⟩) hPc hDc (va_recv hK hPr (ci := 3) (q0 := 0) rfl rfl) rfl rfl (Nat.le_of_ble_eq_true rfl) dL_kept_5 ⟨Nat.le_of_ble_eq_true rfl, Nat.le_of_ble_eq_true rfl⟩) hP hD hS hA hpe (fun r w1 h => h.2.2.ad2 hw) (fun E9 ce9 q9 H locs hE9 hP hD hS h91 h92 h93 => ?_) (fun r9 w1 H locs hpo hP hD hS => ?_)
  · have hsw : List.Perm (α := Nat × va_E) (w ++ [(aO, .inl (cD, 1, .inr (.inr (.inr (.inl fo)))))]) ((aO, .inl (cD, 1, .inr (.inr (.inr (.inl fo))))) :: w) := (lz_pc _ w).symm
    replace hP := lz_permP hsw hP
    replace hD := lz_permD hsw hD
    obtain ⟨-, -, -, -, hca, -, -, -, hN1, hN2, hN3, -⟩ := hC.2.2.2
    rcases hE9 with ⟨rfl, hn9⟩ | ⟨rfl, hp1, hn9⟩ | ⟨rfl, hp1, hp2, hn9⟩
    · refine vx_catch (own := RL) (name := eI) (E := eI) hown [] ⟨0, 10, 13, 13⟩ [] htab (fun z9 hz9 => nomatch hz9) (by decide) (by decide) (hts (.classLink RL 13 "java/lang/IndexOutOfBoundsException") (List.mem_of_getElem? (i := 1) rfl)) (va_Nw.use rfl (hca.1 eI (by decide))) h91 h92 h93 ?_
      show W p l e _ s m _ below meth c _ _ _ _ _ (F0 m 13 ls [.ref q9])
      refine lv_astore (lv' := [(4, .ref q9), (0, .ref (o 0)), (1, .int z), (2, .int i), (3, .ref aO)]) hx hb dL_kept_13 hl (by decide) rfl (fun ls hl => ?_)
      refine lv_iconst (v := nI 1) hx hb dL_kept_15 (by decide) ?_
      exact W.iret hx hb hr (fun t9 ht9 _ => ⟨⟨_, (aO, .inl (cD, 1, .inr (.inr (.inr (.inl fo))))) :: w, rfl, ⟨1, w, fo, rfl, Or.inr (Or.inl ⟨hn9, rfl⟩), rfl, fun q => absurd q (by decide), fun _ => hw⟩, by show va_P D vwCl _ t9.heap; rw [ht9]; exact hP⟩, hS.F ht9⟩) hS.2.2 dL_kept_16
    · exact absurd trivial hn9
    · exact absurd trivial hn9
  · have hsw : List.Perm (α := Nat × va_E) (w1 ++ [(aO, .inl (cD, 1, .inr (.inr (.inr (.inl fo)))))]) ((aO, .inl (cD, 1, .inr (.inr (.inr (.inl fo))))) :: w1) := (lz_pc _ w1).symm
    replace hP := lz_permP hsw hP
    replace hD := lz_permD hsw hD
    obtain ⟨hp1, rfl, hw9⟩ := hpo
    refine lv_f2d hx hb dL_kept_8 (fl_f2d (sgt_fin hx0 _ _)) ?_
    refine lz_dast hx hb hKJ hP hD hS dL_kept_9 (fun H locs hP hD hS => ?_)
    refine lv_goto (tgt := 17) hx hb dL_kept_10 (by decide) ?_
    refine lv_iconst (v := nI 0) hx hb dL_kept_17 (by decide) ?_
    exact W.iret hx hb hr (fun t9 ht9 _ => ⟨⟨_, (aO, .inl (cD, 1, .inr (.inr (.inr (.inl (vf_upd fo 0 (FP.f2d (sgt (sS x) z.toInt (tn i))))))))) :: w1, rfl, ⟨0, w1, _, rfl, Or.inl ⟨hp1, trivial, trivial, rfl⟩, rfl, fun _ => ⟨rfl, hw9⟩, fun q => absurd rfl q⟩, by show va_P D vwCl _ t9.heap; rw [ht9]; exact hP⟩, hS.F ht9⟩) hS.2.2 dL_kept_18

set_option maxRecDepth 100000 in
set_option maxHeartbeats 4000000 in
/-- differs -/
theorem c_L_differs {z : Int32}  {fo : Nat → Int64} (hw : WC cI cF cQ o n ev R x w) (hx0 : Ok n ev R x) (hs : srt (sL x)) : Met l yL_differs wsL_differs (rmk 10 8 48) (pcL l D cI cF cQ aT cJ cD [.ref (o 0), .int z, .ref aO] ((aO, .inl (cJ, 1, .inr (.inl fo))) :: w) sz) (va_Qi (fun (r : Int32) (w1 : va_W) => ∃ (k : Nat) (wC : va_W) (g : Nat → Int64), r = nI k ∧ cdR (plc (sS x) z.toInt ≠ none) True True k ∧ w1 = (aO, .inl (cJ, 1, .inr (.inl g))) :: wC ∧ (k = 0 → g 0 = (dif (sc x) (sgt (sS x) z.toInt) n 0).toInt64 ∧ WC cI cF cQ o n ev R x wC) ∧ (k ≠ 0 → WC cI cF cQ o n ev R x wC)) (fun w1 t => va_P D vwCl w1 t.heap) (va_A ((aO, .inl (cJ, 1, .inr (.inl fo))) :: w) sz)) 8 48 (va_A ((aO, .inl (cJ, 1, .inr (.inl fo))) :: w) sz) := by
  refine lz_ofH (Qf := fun A => va_Qi (fun (r : Int32) (w1 : va_W) => ∃ (k : Nat) (wC : va_W) (g : Nat → Int64), r = nI k ∧ cdR (plc (sS x) z.toInt ≠ none) True True k ∧ w1 = (aO, .inl (cJ, 1, .inr (.inl g))) :: wC ∧ (k = 0 → g 0 = (dif (sc x) (sgt (sS x) z.toInt) n 0).toInt64 ∧ WC cI cF cQ o n ev R x wC) ∧ (k ≠ 0 → WC cI cF cQ o n ev R x wC)) (fun w1 t => va_P D vwCl w1 t.heap) A) (cc := cL_differs) (maxL := 4) (ret := (some .int)) (hh := [(0, 9, 12, 13)]) (by decide) rfl (Nat.le_of_ble_eq_true rfl) ?_
  intro p e s m below meth c A hAe hsz htab hx hb hr hlk hC hKJ hP hD hS ls hl
  clear hAe
  have hts := hC.1.2.2.2.2
  have hown : s.vm.findClass RL = some m.cls := hC.1.2.2.2.1
  have hml := hC.1.2.2.1
  have hA := hC.2.1
  have hK := hC.2.2.2.1
  have hnm := hC.2.2.2.2.1
  have hnf := hC.2.2.2.2.2.1
  have hl : lv_has ls 4 [(0, .ref (o 0)), (1, .int z), (2, .ref aO)] := hl
  have hw2 : o 0 = o 0 := rfl
  refine lv_aload_n hx hb dL_differs_0 rfl (lv_at hl 2 rfl) ?_
  refine lv_iconst (v := nI 0) hx hb dL_differs_1 (by decide) ?_
  refine lv_aload_n hx hb dL_differs_2 rfl (lv_at hl 0 rfl) ?_
  refine lv_iload_n hx hb dL_differs_3 rfl (lv_at hl 1 rfl) ?_
  obtain ⟨wD, wR, wS, hWD, hWR, hWS, hwe⟩ := id hw
  have hpe : List.Perm (α := Nat × va_E) ((aO, .inl (cJ, 1, .inr (.inl fo))) :: w) (w ++ [(aO, .inl (cJ, 1, .inr (.inl fo)))]) := lz_pc _ w
  have hPc : va_P D vwCl w _ := lz_cutP hpe hP
  have hDc : va_D A w := lz_cutD hpe hD
  have hPr := id hPc
  rw [hwe] at hPr
  refine lx_cPi (lx_runV (C := RX3) (As := [.int z]) (rest := [.int (nI 0), .ref aO]) hC hS hl (c_X3_differs hw hx0 hs) (cwV 1 hts gL_differs_X3_differs rfl rfl rfl (by decide +kernel) ⟨Nat.le_of_ble_eq_true rfl, Nat.le_of_ble_eq_true rfl⟩) hPc hDc (va_recv hK hPr (ci := 3) (q0 := 0) rfl rfl) rfl rfl (Nat.le_of_ble_eq_true rfl) dL_differs_4 ⟨Nat.le_of_ble_eq_true rfl, Nat.le_of_ble_eq_true rfl⟩) hP hD hS hA hpe (fun r w1 h => h.2.2.ad2 hw) (fun E9 ce9 q9 H locs hE9 hP hD hS h91 h92 h93 => ?_) (fun r9 w1 H locs hpo hP hD hS => ?_)
  · have hsw : List.Perm (α := Nat × va_E) (w ++ [(aO, .inl (cJ, 1, .inr (.inl fo)))]) ((aO, .inl (cJ, 1, .inr (.inl fo))) :: w) := (lz_pc _ w).symm
    replace hP := lz_permP hsw hP
    replace hD := lz_permD hsw hD
    obtain ⟨-, -, -, -, hca, -, -, -, hN1, hN2, hN3, -⟩ := hC.2.2.2
    rcases hE9 with ⟨rfl, hn9⟩ | ⟨rfl, hp1, hn9⟩ | ⟨rfl, hp1, hp2, hn9⟩
    · refine vx_catch (own := RL) (name := eI) (E := eI) hown [] ⟨0, 9, 12, 13⟩ [] htab (fun z9 hz9 => nomatch hz9) (by decide) (by decide) (hts (.classLink RL 13 "java/lang/IndexOutOfBoundsException") (List.mem_of_getElem? (i := 1) rfl)) (va_Nw.use rfl (hca.1 eI (by decide))) h91 h92 h93 ?_
      show W p l e _ s m _ below meth c _ _ _ _ _ (F0 m 12 ls [.ref q9])
      refine lv_astore_n (lv' := [(3, .ref q9), (0, .ref (o 0)), (1, .int z), (2, .ref aO)]) hx hb dL_differs_12 rfl hl (by decide) rfl (fun ls hl => ?_)
      refine lv_iconst (v := nI 1) hx hb dL_differs_13 (by decide) ?_
      exact W.iret hx hb hr (fun t9 ht9 _ => ⟨⟨_, (aO, .inl (cJ, 1, .inr (.inl fo))) :: w, rfl, ⟨1, w, fo, rfl, Or.inr (Or.inl ⟨hn9, rfl⟩), rfl, fun q => absurd q (by decide), fun _ => hw⟩, by show va_P D vwCl _ t9.heap; rw [ht9]; exact hP⟩, hS.F ht9⟩) hS.2.2 dL_differs_14
    · exact absurd trivial hn9
    · exact absurd trivial hn9
  · have hsw : List.Perm (α := Nat × va_E) (w1 ++ [(aO, .inl (cJ, 1, .inr (.inl fo)))]) ((aO, .inl (cJ, 1, .inr (.inl fo))) :: w1) := (lz_pc _ w1).symm
    replace hP := lz_permP hsw hP
    replace hD := lz_permD hsw hD
    obtain ⟨hp1, rfl, hw9⟩ := hpo
    refine lv_i2l (v := (dif (sc x) (sgt (sS x) z.toInt) n 0).toInt64) hx hb dL_differs_7 rfl ?_
    refine lz_last hx hb hKJ hP hD hS dL_differs_8 (fun H locs hP hD hS => ?_)
    refine lv_goto (tgt := 15) hx hb dL_differs_9 (by decide) ?_
    refine lv_iconst (v := nI 0) hx hb dL_differs_15 (by decide) ?_
    exact W.iret hx hb hr (fun t9 ht9 _ => ⟨⟨_, (aO, .inl (cJ, 1, .inr (.inl (vp_updL fo 0 (dif (sc x) (sgt (sS x) z.toInt) n 0).toInt64)))) :: w1, rfl, ⟨0, w1, _, rfl, Or.inl ⟨hp1, trivial, trivial, rfl⟩, rfl, fun _ => ⟨rfl, hw9⟩, fun q => absurd rfl q⟩, by show va_P D vwCl _ t9.heap; rw [ht9]; exact hP⟩, hS.F ht9⟩) hS.2.2 dL_differs_16

set_option maxRecDepth 100000 in
set_option maxHeartbeats 4000000 in
/-- snapshot -/
theorem c_L_snapshot {z : Int32}  {fo : Nat → Int64} (hw : WC cI cF cQ o n ev R x w) (hx0 : Ok n ev R x) (hs : srt (sL x)) : Met l yL_snapshot wsL_snapshot (rmk 10 8 48) (pcL l D cI cF cQ aT cJ cD [.ref (o 0), .int z, .ref aO] ((aO, .inl (cJ, 1, .inr (.inl fo))) :: w) sz) (va_Qi (fun (r : Int32) (w1 : va_W) => ∃ (k : Nat) (wC : va_W) (g : Nat → Int64), r = nI k ∧ cdR (0 ≤ z.toInt ∧ z.toInt < ((sS x).length : Int)) True True k ∧ w1 = (aO, .inl (cJ, 1, .inr (.inl g))) :: wC ∧ (k = 0 → g 0 = (snv (sS x) (tn z)).toInt64 ∧ WC cI cF cQ o n ev R x wC) ∧ (k ≠ 0 → WC cI cF cQ o n ev R x wC)) (fun w1 t => va_P D vwCl w1 t.heap) (va_A ((aO, .inl (cJ, 1, .inr (.inl fo))) :: w) sz)) 8 48 (va_A ((aO, .inl (cJ, 1, .inr (.inl fo))) :: w) sz) := by
  refine lz_ofH (Qf := fun A => va_Qi (fun (r : Int32) (w1 : va_W) => ∃ (k : Nat) (wC : va_W) (g : Nat → Int64), r = nI k ∧ cdR (0 ≤ z.toInt ∧ z.toInt < ((sS x).length : Int)) True True k ∧ w1 = (aO, .inl (cJ, 1, .inr (.inl g))) :: wC ∧ (k = 0 → g 0 = (snv (sS x) (tn z)).toInt64 ∧ WC cI cF cQ o n ev R x wC) ∧ (k ≠ 0 → WC cI cF cQ o n ev R x wC)) (fun w1 t => va_P D vwCl w1 t.heap) A) (cc := cL_snapshot) (maxL := 4) (ret := (some .int)) (hh := [(0, 9, 12, 13)]) (by decide) rfl (Nat.le_of_ble_eq_true rfl) ?_
  intro p e s m below meth c A hAe hsz htab hx hb hr hlk hC hKJ hP hD hS ls hl
  clear hAe
  have hts := hC.1.2.2.2.2
  have hown : s.vm.findClass RL = some m.cls := hC.1.2.2.2.1
  have hml := hC.1.2.2.1
  have hA := hC.2.1
  have hK := hC.2.2.2.1
  have hnm := hC.2.2.2.2.1
  have hnf := hC.2.2.2.2.2.1
  have hl : lv_has ls 4 [(0, .ref (o 0)), (1, .int z), (2, .ref aO)] := hl
  have hw2 : o 0 = o 0 := rfl
  refine lv_aload_n hx hb dL_snapshot_0 rfl (lv_at hl 2 rfl) ?_
  refine lv_iconst (v := nI 0) hx hb dL_snapshot_1 (by decide) ?_
  refine lv_aload_n hx hb dL_snapshot_2 rfl (lv_at hl 0 rfl) ?_
  refine lv_iload_n hx hb dL_snapshot_3 rfl (lv_at hl 1 rfl) ?_
  obtain ⟨wD, wR, wS, hWD, hWR, hWS, hwe⟩ := id hw
  have hpe : List.Perm (α := Nat × va_E) ((aO, .inl (cJ, 1, .inr (.inl fo))) :: w) (w ++ [(aO, .inl (cJ, 1, .inr (.inl fo)))]) := lz_pc _ w
  have hPc : va_P D vwCl w _ := lz_cutP hpe hP
  have hDc : va_D A w := lz_cutD hpe hD
  have hPr := id hPc
  rw [hwe] at hPr
  refine lx_cPi (lx_runV (C := RX3) (As := [.int z]) (rest := [.int (nI 0), .ref aO]) hC hS hl (c_X3_snapshot hw hx0 hs) (cwV 1 hts gL_snapshot_X3_snapshot rfl rfl rfl (by decide +kernel) ⟨Nat.le_of_ble_eq_true rfl, Nat.le_of_ble_eq_true rfl⟩) hPc hDc (va_recv hK hPr (ci := 3) (q0 := 0) rfl rfl) rfl rfl (Nat.le_of_ble_eq_true rfl) dL_snapshot_4 ⟨Nat.le_of_ble_eq_true rfl, Nat.le_of_ble_eq_true rfl⟩) hP hD hS hA hpe (fun r w1 h => h.2.2.ad2 hw) (fun E9 ce9 q9 H locs hE9 hP hD hS h91 h92 h93 => ?_) (fun r9 w1 H locs hpo hP hD hS => ?_)
  · have hsw : List.Perm (α := Nat × va_E) (w ++ [(aO, .inl (cJ, 1, .inr (.inl fo)))]) ((aO, .inl (cJ, 1, .inr (.inl fo))) :: w) := (lz_pc _ w).symm
    replace hP := lz_permP hsw hP
    replace hD := lz_permD hsw hD
    obtain ⟨-, -, -, -, hca, -, -, -, hN1, hN2, hN3, -⟩ := hC.2.2.2
    rcases hE9 with ⟨rfl, hn9⟩ | ⟨rfl, hp1, hn9⟩ | ⟨rfl, hp1, hp2, hn9⟩
    · refine vx_catch (own := RL) (name := eI) (E := eI) hown [] ⟨0, 9, 12, 13⟩ [] htab (fun z9 hz9 => nomatch hz9) (by decide) (by decide) (hts (.classLink RL 13 "java/lang/IndexOutOfBoundsException") (List.mem_of_getElem? (i := 1) rfl)) (va_Nw.use rfl (hca.1 eI (by decide))) h91 h92 h93 ?_
      show W p l e _ s m _ below meth c _ _ _ _ _ (F0 m 12 ls [.ref q9])
      refine lv_astore_n (lv' := [(3, .ref q9), (0, .ref (o 0)), (1, .int z), (2, .ref aO)]) hx hb dL_snapshot_12 rfl hl (by decide) rfl (fun ls hl => ?_)
      refine lv_iconst (v := nI 1) hx hb dL_snapshot_13 (by decide) ?_
      exact W.iret hx hb hr (fun t9 ht9 _ => ⟨⟨_, (aO, .inl (cJ, 1, .inr (.inl fo))) :: w, rfl, ⟨1, w, fo, rfl, Or.inr (Or.inl ⟨hn9, rfl⟩), rfl, fun q => absurd q (by decide), fun _ => hw⟩, by show va_P D vwCl _ t9.heap; rw [ht9]; exact hP⟩, hS.F ht9⟩) hS.2.2 dL_snapshot_14
    · exact absurd trivial hn9
    · exact absurd trivial hn9
  · have hsw : List.Perm (α := Nat × va_E) (w1 ++ [(aO, .inl (cJ, 1, .inr (.inl fo)))]) ((aO, .inl (cJ, 1, .inr (.inl fo))) :: w1) := (lz_pc _ w1).symm
    replace hP := lz_permP hsw hP
    replace hD := lz_permD hsw hD
    obtain ⟨hp1, rfl, hw9⟩ := hpo
    refine lv_i2l (v := (snv (sS x) (tn z)).toInt64) hx hb dL_snapshot_7 rfl ?_
    refine lz_last hx hb hKJ hP hD hS dL_snapshot_8 (fun H locs hP hD hS => ?_)
    refine lv_goto (tgt := 15) hx hb dL_snapshot_9 (by decide) ?_
    refine lv_iconst (v := nI 0) hx hb dL_snapshot_15 (by decide) ?_
    exact W.iret hx hb hr (fun t9 ht9 _ => ⟨⟨_, (aO, .inl (cJ, 1, .inr (.inl (vp_updL fo 0 (snv (sS x) (tn z)).toInt64)))) :: w1, rfl, ⟨0, w1, _, rfl, Or.inl ⟨hp1, trivial, trivial, rfl⟩, rfl, fun _ => ⟨rfl, hw9⟩, fun q => absurd rfl q⟩, by show va_P D vwCl _ t9.heap; rw [ht9]; exact hP⟩, hS.F ht9⟩) hS.2.2 dL_snapshot_16

set_option maxRecDepth 100000 in
set_option maxHeartbeats 4000000 in
/-- record -/
theorem c_L_record {z q i : Int32}  {fo : Nat → Int64} (hw : WC cI cF cQ o n ev R x w) (hx0 : Ok n ev R x) (hs : srt (sL x)) : Met l yL_record wsL_record (rmk 10 8 48) (pcL l D cI cF cQ aT cJ cD [.ref (o 0), .int z, .int q, .int i, .ref aO] ((aO, .inl (cJ, 1, .inr (.inl fo))) :: w) sz) (va_Qi (fun (r : Int32) (w1 : va_W) => ∃ (k : Nat) (wC : va_W) (g : Nat → Int64), r = nI k ∧ cdR ((0 ≤ q.toInt ∧ q.toInt < (cq (sL x) z.toInt : Int)) ∧ (i.toInt = 0 ∨ i.toInt = 1)) True True k ∧ w1 = (aO, .inl (cJ, 1, .inr (.inl g))) :: wC ∧ (k = 0 → g 0 = ((if i.toInt = 0 then nI (rget (sL x) z.toInt (tn q)).2.1 else nI (rget (sL x) z.toInt (tn q)).2.2.1)).toInt64 ∧ WC cI cF cQ o n ev R x wC) ∧ (k ≠ 0 → WC cI cF cQ o n ev R x wC)) (fun w1 t => va_P D vwCl w1 t.heap) (va_A ((aO, .inl (cJ, 1, .inr (.inl fo))) :: w) sz)) 8 48 (va_A ((aO, .inl (cJ, 1, .inr (.inl fo))) :: w) sz) := by
  refine lz_ofH (Qf := fun A => va_Qi (fun (r : Int32) (w1 : va_W) => ∃ (k : Nat) (wC : va_W) (g : Nat → Int64), r = nI k ∧ cdR ((0 ≤ q.toInt ∧ q.toInt < (cq (sL x) z.toInt : Int)) ∧ (i.toInt = 0 ∨ i.toInt = 1)) True True k ∧ w1 = (aO, .inl (cJ, 1, .inr (.inl g))) :: wC ∧ (k = 0 → g 0 = ((if i.toInt = 0 then nI (rget (sL x) z.toInt (tn q)).2.1 else nI (rget (sL x) z.toInt (tn q)).2.2.1)).toInt64 ∧ WC cI cF cQ o n ev R x wC) ∧ (k ≠ 0 → WC cI cF cQ o n ev R x wC)) (fun w1 t => va_P D vwCl w1 t.heap) A) (cc := cL_record) (maxL := 6) (ret := (some .int)) (hh := [(0, 12, 15, 13)]) (by decide) rfl (Nat.le_of_ble_eq_true rfl) ?_
  intro p e s m below meth c A hAe hsz htab hx hb hr hlk hC hKJ hP hD hS ls hl
  clear hAe
  have hts := hC.1.2.2.2.2
  have hown : s.vm.findClass RL = some m.cls := hC.1.2.2.2.1
  have hml := hC.1.2.2.1
  have hA := hC.2.1
  have hK := hC.2.2.2.1
  have hnm := hC.2.2.2.2.1
  have hnf := hC.2.2.2.2.2.1
  have hl : lv_has ls 6 [(0, .ref (o 0)), (1, .int z), (2, .int q), (3, .int i), (4, .ref aO)] := hl
  have hw2 : o 0 = o 0 := rfl
  refine lv_aload hx hb dL_record_0 (lv_at hl 4 rfl) ?_
  refine lv_iconst (v := nI 0) hx hb dL_record_2 (by decide) ?_
  refine lv_aload_n hx hb dL_record_3 rfl (lv_at hl 0 rfl) ?_
  refine lv_iload_n hx hb dL_record_4 rfl (lv_at hl 1 rfl) ?_
  refine lv_iload_n hx hb dL_record_5 rfl (lv_at hl 2 rfl) ?_
  refine lv_iload_n hx hb dL_record_6 rfl (lv_at hl 3 rfl) ?_
  obtain ⟨wD, wR, wS, hWD, hWR, hWS, hwe⟩ := id hw
  have hpe : List.Perm (α := Nat × va_E) ((aO, .inl (cJ, 1, .inr (.inl fo))) :: w) (w ++ [(aO, .inl (cJ, 1, .inr (.inl fo)))]) := lz_pc _ w
  have hPc : va_P D vwCl w _ := lz_cutP hpe hP
  have hDc : va_D A w := lz_cutD hpe hD
  have hPr := id hPc
  rw [hwe] at hPr
  refine lx_cPi (lx_runV (C := RX3) (As := [.int z, .int q, .int i]) (rest := [.int (nI 0), .ref aO]) hC hS hl (c_X3_record hw hx0 hs) (cwV 3 hts gL_record_X3_record rfl rfl rfl (by decide +kernel) ⟨Nat.le_of_ble_eq_true rfl, Nat.le_of_ble_eq_true rfl⟩) hPc hDc (va_recv hK hPr (ci := 3) (q0 := 0) rfl rfl) rfl rfl (Nat.le_of_ble_eq_true rfl) dL_record_7 ⟨Nat.le_of_ble_eq_true rfl, Nat.le_of_ble_eq_true rfl⟩) hP hD hS hA hpe (fun r w1 h => h.2.2.ad2 hw) (fun E9 ce9 q9 H locs hE9 hP hD hS h91 h92 h93 => ?_) (fun r9 w1 H locs hpo hP hD hS => ?_)
  · have hsw : List.Perm (α := Nat × va_E) (w ++ [(aO, .inl (cJ, 1, .inr (.inl fo)))]) ((aO, .inl (cJ, 1, .inr (.inl fo))) :: w) := (lz_pc _ w).symm
    replace hP := lz_permP hsw hP
    replace hD := lz_permD hsw hD
    obtain ⟨-, -, -, -, hca, -, -, -, hN1, hN2, hN3, -⟩ := hC.2.2.2
    rcases hE9 with ⟨rfl, hn9⟩ | ⟨rfl, hp1, hn9⟩ | ⟨rfl, hp1, hp2, hn9⟩
    · refine vx_catch (own := RL) (name := eI) (E := eI) hown [] ⟨0, 12, 15, 13⟩ [] htab (fun z9 hz9 => nomatch hz9) (by decide) (by decide) (hts (.classLink RL 13 "java/lang/IndexOutOfBoundsException") (List.mem_of_getElem? (i := 1) rfl)) (va_Nw.use rfl (hca.1 eI (by decide))) h91 h92 h93 ?_
      show W p l e _ s m _ below meth c _ _ _ _ _ (F0 m 15 ls [.ref q9])
      refine lv_astore (lv' := [(5, .ref q9), (0, .ref (o 0)), (1, .int z), (2, .int q), (3, .int i), (4, .ref aO)]) hx hb dL_record_15 hl (by decide) rfl (fun ls hl => ?_)
      refine lv_iconst (v := nI 1) hx hb dL_record_17 (by decide) ?_
      exact W.iret hx hb hr (fun t9 ht9 _ => ⟨⟨_, (aO, .inl (cJ, 1, .inr (.inl fo))) :: w, rfl, ⟨1, w, fo, rfl, Or.inr (Or.inl ⟨hn9, rfl⟩), rfl, fun q => absurd q (by decide), fun _ => hw⟩, by show va_P D vwCl _ t9.heap; rw [ht9]; exact hP⟩, hS.F ht9⟩) hS.2.2 dL_record_18
    · exact absurd trivial hn9
    · exact absurd trivial hn9
  · have hsw : List.Perm (α := Nat × va_E) (w1 ++ [(aO, .inl (cJ, 1, .inr (.inl fo)))]) ((aO, .inl (cJ, 1, .inr (.inl fo))) :: w1) := (lz_pc _ w1).symm
    replace hP := lz_permP hsw hP
    replace hD := lz_permD hsw hD
    obtain ⟨hp1, rfl, hw9⟩ := hpo
    refine lv_i2l (v := ((if i.toInt = 0 then nI (rget (sL x) z.toInt (tn q)).2.1 else nI (rget (sL x) z.toInt (tn q)).2.2.1)).toInt64) hx hb dL_record_10 rfl ?_
    refine lz_last hx hb hKJ hP hD hS dL_record_11 (fun H locs hP hD hS => ?_)
    refine lv_goto (tgt := 19) hx hb dL_record_12 (by decide) ?_
    refine lv_iconst (v := nI 0) hx hb dL_record_19 (by decide) ?_
    exact W.iret hx hb hr (fun t9 ht9 _ => ⟨⟨_, (aO, .inl (cJ, 1, .inr (.inl (vp_updL fo 0 ((if i.toInt = 0 then nI (rget (sL x) z.toInt (tn q)).2.1 else nI (rget (sL x) z.toInt (tn q)).2.2.1)).toInt64)))) :: w1, rfl, ⟨0, w1, _, rfl, Or.inl ⟨hp1, trivial, trivial, rfl⟩, rfl, fun _ => ⟨rfl, hw9⟩, fun q => absurd rfl q⟩, by show va_P D vwCl _ t9.heap; rw [ht9]; exact hP⟩, hS.F ht9⟩) hS.2.2 dL_record_20

set_option maxRecDepth 100000 in
set_option maxHeartbeats 4000000 in
/-- recorded -/
theorem c_L_recorded {z q : Int32}  {fo : Nat → UInt64} (hw : WC cI cF cQ o n ev R x w) (hx0 : Ok n ev R x) (hs : srt (sL x)) : Met l yL_recorded wsL_recorded (rmk 10 8 48) (pcL l D cI cF cQ aT cJ cD [.ref (o 0), .int z, .int q, .ref aO] ((aO, .inl (cD, 1, .inr (.inr (.inr (.inl fo))))) :: w) sz) (va_Qi (fun (r : Int32) (w1 : va_W) => ∃ (k : Nat) (wC : va_W) (g : Nat → UInt64), r = nI k ∧ cdR (0 ≤ q.toInt ∧ q.toInt < (cq (sL x) z.toInt : Int)) True True k ∧ w1 = (aO, .inl (cD, 1, .inr (.inr (.inr (.inl g))))) :: wC ∧ (k = 0 → g 0 = FP.f2d ((rget (sL x) z.toInt (tn q)).2.2.2) ∧ WC cI cF cQ o n ev R x wC) ∧ (k ≠ 0 → WC cI cF cQ o n ev R x wC)) (fun w1 t => va_P D vwCl w1 t.heap) (va_A ((aO, .inl (cD, 1, .inr (.inr (.inr (.inl fo))))) :: w) sz)) 8 48 (va_A ((aO, .inl (cD, 1, .inr (.inr (.inr (.inl fo))))) :: w) sz) := by
  refine lz_ofH (Qf := fun A => va_Qi (fun (r : Int32) (w1 : va_W) => ∃ (k : Nat) (wC : va_W) (g : Nat → UInt64), r = nI k ∧ cdR (0 ≤ q.toInt ∧ q.toInt < (cq (sL x) z.toInt : Int)) True True k ∧ w1 = (aO, .inl (cD, 1, .inr (.inr (.inr (.inl g))))) :: wC ∧ (k = 0 → g 0 = FP.f2d ((rget (sL x) z.toInt (tn q)).2.2.2) ∧ WC cI cF cQ o n ev R x wC) ∧ (k ≠ 0 → WC cI cF cQ o n ev R x wC)) (fun w1 t => va_P D vwCl w1 t.heap) A) (cc := cL_recorded) (maxL := 5) (ret := (some .int)) (hh := [(0, 10, 13, 13)]) (by decide) rfl (Nat.le_of_ble_eq_true rfl) ?_
  intro p e s m below meth c A hAe hsz htab hx hb hr hlk hC hKJ hP hD hS ls hl
  clear hAe
  have hts := hC.1.2.2.2.2
  have hown : s.vm.findClass RL = some m.cls := hC.1.2.2.2.1
  have hml := hC.1.2.2.1
  have hA := hC.2.1
  have hK := hC.2.2.2.1
  have hnm := hC.2.2.2.2.1
  have hnf := hC.2.2.2.2.2.1
  have hl : lv_has ls 5 [(0, .ref (o 0)), (1, .int z), (2, .int q), (3, .ref aO)] := hl
  have hw2 : o 0 = o 0 := rfl
  refine lv_aload_n hx hb dL_recorded_0 rfl (lv_at hl 3 rfl) ?_
  refine lv_iconst (v := nI 0) hx hb dL_recorded_1 (by decide) ?_
  refine lv_aload_n hx hb dL_recorded_2 rfl (lv_at hl 0 rfl) ?_
  refine lv_iload_n hx hb dL_recorded_3 rfl (lv_at hl 1 rfl) ?_
  refine lv_iload_n hx hb dL_recorded_4 rfl (lv_at hl 2 rfl) ?_
  obtain ⟨wD, wR, wS, hWD, hWR, hWS, hwe⟩ := id hw
  have hpe : List.Perm (α := Nat × va_E) ((aO, .inl (cD, 1, .inr (.inr (.inr (.inl fo))))) :: w) (w ++ [(aO, .inl (cD, 1, .inr (.inr (.inr (.inl fo)))))]) := lz_pc _ w
  have hPc : va_P D vwCl w _ := lz_cutP hpe hP
  have hDc : va_D A w := lz_cutD hpe hD
  have hPr := id hPc
  rw [hwe] at hPr
  refine lx_cPf (lx_runV (C := RX3) (As := [.int z, .int q]) (rest := [.int (nI 0), .ref aO]) hC hS hl (c_X3_recorded hw hx0 hs) (cwV 2 hts gL_recorded_X3_recorded rfl rfl rfl (by decide +kernel) ⟨Nat.le_of_ble_eq_true rfl, Nat.le_of_ble_eq_true rfl⟩) hPc hDc (va_recv hK hPr (ci := 3) (q0 := 0) rfl rfl) rfl rfl (Nat.le_of_ble_eq_true rfl) dL_recorded_5 ⟨Nat.le_of_ble_eq_true rfl, Nat.le_of_ble_eq_true rfl⟩) hP hD hS hA hpe (fun r w1 h => h.2.2.ad2 hw) (fun E9 ce9 q9 H locs hE9 hP hD hS h91 h92 h93 => ?_) (fun r9 w1 H locs hpo hP hD hS => ?_)
  · have hsw : List.Perm (α := Nat × va_E) (w ++ [(aO, .inl (cD, 1, .inr (.inr (.inr (.inl fo)))))]) ((aO, .inl (cD, 1, .inr (.inr (.inr (.inl fo))))) :: w) := (lz_pc _ w).symm
    replace hP := lz_permP hsw hP
    replace hD := lz_permD hsw hD
    obtain ⟨-, -, -, -, hca, -, -, -, hN1, hN2, hN3, -⟩ := hC.2.2.2
    rcases hE9 with ⟨rfl, hn9⟩ | ⟨rfl, hp1, hn9⟩ | ⟨rfl, hp1, hp2, hn9⟩
    · refine vx_catch (own := RL) (name := eI) (E := eI) hown [] ⟨0, 10, 13, 13⟩ [] htab (fun z9 hz9 => nomatch hz9) (by decide) (by decide) (hts (.classLink RL 13 "java/lang/IndexOutOfBoundsException") (List.mem_of_getElem? (i := 1) rfl)) (va_Nw.use rfl (hca.1 eI (by decide))) h91 h92 h93 ?_
      show W p l e _ s m _ below meth c _ _ _ _ _ (F0 m 13 ls [.ref q9])
      refine lv_astore (lv' := [(4, .ref q9), (0, .ref (o 0)), (1, .int z), (2, .int q), (3, .ref aO)]) hx hb dL_recorded_13 hl (by decide) rfl (fun ls hl => ?_)
      refine lv_iconst (v := nI 1) hx hb dL_recorded_15 (by decide) ?_
      exact W.iret hx hb hr (fun t9 ht9 _ => ⟨⟨_, (aO, .inl (cD, 1, .inr (.inr (.inr (.inl fo))))) :: w, rfl, ⟨1, w, fo, rfl, Or.inr (Or.inl ⟨hn9, rfl⟩), rfl, fun q => absurd q (by decide), fun _ => hw⟩, by show va_P D vwCl _ t9.heap; rw [ht9]; exact hP⟩, hS.F ht9⟩) hS.2.2 dL_recorded_16
    · exact absurd trivial hn9
    · exact absurd trivial hn9
  · have hsw : List.Perm (α := Nat × va_E) (w1 ++ [(aO, .inl (cD, 1, .inr (.inr (.inr (.inl fo)))))]) ((aO, .inl (cD, 1, .inr (.inr (.inr (.inl fo))))) :: w1) := (lz_pc _ w1).symm
    replace hP := lz_permP hsw hP
    replace hD := lz_permD hsw hD
    obtain ⟨hp1, rfl, hw9⟩ := hpo
    refine lv_f2d hx hb dL_recorded_8 (fl_f2d (rget_fin hx0.2.2.2.2.2.1 _ _)) ?_
    refine lz_dast hx hb hKJ hP hD hS dL_recorded_9 (fun H locs hP hD hS => ?_)
    refine lv_goto (tgt := 17) hx hb dL_recorded_10 (by decide) ?_
    refine lv_iconst (v := nI 0) hx hb dL_recorded_17 (by decide) ?_
    exact W.iret hx hb hr (fun t9 ht9 _ => ⟨⟨_, (aO, .inl (cD, 1, .inr (.inr (.inr (.inl (vf_upd fo 0 (FP.f2d ((rget (sL x) z.toInt (tn q)).2.2.2)))))))) :: w1, rfl, ⟨0, w1, _, rfl, Or.inl ⟨hp1, trivial, trivial, rfl⟩, rfl, fun _ => ⟨rfl, hw9⟩, fun q => absurd rfl q⟩, by show va_P D vwCl _ t9.heap; rw [ht9]; exact hP⟩, hS.F ht9⟩) hS.2.2 dL_recorded_18

set_option maxRecDepth 100000 in
set_option maxHeartbeats 4000000 in
/-- count -/
theorem c_L_count {z : Int32}  {fo : Nat → Int64} (hw : WC cI cF cQ o n ev R x w) (hx0 : Ok n ev R x) (hs : srt (sL x)) : Met l yL_count wsL_count (rmk 10 8 48) (pcL l D cI cF cQ aT cJ cD [.ref (o 0), .int z, .ref aO] ((aO, .inl (cJ, 1, .inr (.inl fo))) :: w) sz) (va_Qi (fun (r : Int32) (w1 : va_W) => ∃ (k : Nat) (wC : va_W) (g : Nat → Int64), r = nI k ∧ cdR (0 ≤ z.toInt ∧ z.toInt ≤ 7) True True k ∧ w1 = (aO, .inl (cJ, 1, .inr (.inl g))) :: wC ∧ (k = 0 → g 0 = (ctv n R x (tn z)).toInt64 ∧ WC cI cF cQ o n ev R x wC) ∧ (k ≠ 0 → WC cI cF cQ o n ev R x wC)) (fun w1 t => va_P D vwCl w1 t.heap) (va_A ((aO, .inl (cJ, 1, .inr (.inl fo))) :: w) sz)) 8 48 (va_A ((aO, .inl (cJ, 1, .inr (.inl fo))) :: w) sz) := by
  refine lz_ofH (Qf := fun A => va_Qi (fun (r : Int32) (w1 : va_W) => ∃ (k : Nat) (wC : va_W) (g : Nat → Int64), r = nI k ∧ cdR (0 ≤ z.toInt ∧ z.toInt ≤ 7) True True k ∧ w1 = (aO, .inl (cJ, 1, .inr (.inl g))) :: wC ∧ (k = 0 → g 0 = (ctv n R x (tn z)).toInt64 ∧ WC cI cF cQ o n ev R x wC) ∧ (k ≠ 0 → WC cI cF cQ o n ev R x wC)) (fun w1 t => va_P D vwCl w1 t.heap) A) (cc := cL_count) (maxL := 4) (ret := (some .int)) (hh := [(0, 9, 12, 13)]) (by decide) rfl (Nat.le_of_ble_eq_true rfl) ?_
  intro p e s m below meth c A hAe hsz htab hx hb hr hlk hC hKJ hP hD hS ls hl
  clear hAe
  have hts := hC.1.2.2.2.2
  have hown : s.vm.findClass RL = some m.cls := hC.1.2.2.2.1
  have hml := hC.1.2.2.1
  have hA := hC.2.1
  have hK := hC.2.2.2.1
  have hnm := hC.2.2.2.2.1
  have hnf := hC.2.2.2.2.2.1
  have hl : lv_has ls 4 [(0, .ref (o 0)), (1, .int z), (2, .ref aO)] := hl
  have hw2 : o 0 = o 0 := rfl
  refine lv_aload_n hx hb dL_count_0 rfl (lv_at hl 2 rfl) ?_
  refine lv_iconst (v := nI 0) hx hb dL_count_1 (by decide) ?_
  refine lv_aload_n hx hb dL_count_2 rfl (lv_at hl 0 rfl) ?_
  refine lv_iload_n hx hb dL_count_3 rfl (lv_at hl 1 rfl) ?_
  obtain ⟨wD, wR, wS, hWD, hWR, hWS, hwe⟩ := id hw
  have hpe : List.Perm (α := Nat × va_E) ((aO, .inl (cJ, 1, .inr (.inl fo))) :: w) (w ++ [(aO, .inl (cJ, 1, .inr (.inl fo)))]) := lz_pc _ w
  have hPc : va_P D vwCl w _ := lz_cutP hpe hP
  have hDc : va_D A w := lz_cutD hpe hD
  have hPr := id hPc
  rw [hwe] at hPr
  refine lx_cPi (lx_runV (C := RX3) (As := [.int z]) (rest := [.int (nI 0), .ref aO]) hC hS hl (c_X3_count hw hx0 hs) (cwV 1 hts gL_count_X3_count rfl rfl rfl (by decide +kernel) ⟨Nat.le_of_ble_eq_true rfl, Nat.le_of_ble_eq_true rfl⟩) hPc hDc (va_recv hK hPr (ci := 3) (q0 := 0) rfl rfl) rfl rfl (Nat.le_of_ble_eq_true rfl) dL_count_4 ⟨Nat.le_of_ble_eq_true rfl, Nat.le_of_ble_eq_true rfl⟩) hP hD hS hA hpe (fun r w1 h => h.2.2.ad2 hw) (fun E9 ce9 q9 H locs hE9 hP hD hS h91 h92 h93 => ?_) (fun r9 w1 H locs hpo hP hD hS => ?_)
  · have hsw : List.Perm (α := Nat × va_E) (w ++ [(aO, .inl (cJ, 1, .inr (.inl fo)))]) ((aO, .inl (cJ, 1, .inr (.inl fo))) :: w) := (lz_pc _ w).symm
    replace hP := lz_permP hsw hP
    replace hD := lz_permD hsw hD
    obtain ⟨-, -, -, -, hca, -, -, -, hN1, hN2, hN3, -⟩ := hC.2.2.2
    rcases hE9 with ⟨rfl, hn9⟩ | ⟨rfl, hp1, hn9⟩ | ⟨rfl, hp1, hp2, hn9⟩
    · refine vx_catch (own := RL) (name := eI) (E := eI) hown [] ⟨0, 9, 12, 13⟩ [] htab (fun z9 hz9 => nomatch hz9) (by decide) (by decide) (hts (.classLink RL 13 "java/lang/IndexOutOfBoundsException") (List.mem_of_getElem? (i := 1) rfl)) (va_Nw.use rfl (hca.1 eI (by decide))) h91 h92 h93 ?_
      show W p l e _ s m _ below meth c _ _ _ _ _ (F0 m 12 ls [.ref q9])
      refine lv_astore_n (lv' := [(3, .ref q9), (0, .ref (o 0)), (1, .int z), (2, .ref aO)]) hx hb dL_count_12 rfl hl (by decide) rfl (fun ls hl => ?_)
      refine lv_iconst (v := nI 1) hx hb dL_count_13 (by decide) ?_
      exact W.iret hx hb hr (fun t9 ht9 _ => ⟨⟨_, (aO, .inl (cJ, 1, .inr (.inl fo))) :: w, rfl, ⟨1, w, fo, rfl, Or.inr (Or.inl ⟨hn9, rfl⟩), rfl, fun q => absurd q (by decide), fun _ => hw⟩, by show va_P D vwCl _ t9.heap; rw [ht9]; exact hP⟩, hS.F ht9⟩) hS.2.2 dL_count_14
    · exact absurd trivial hn9
    · exact absurd trivial hn9
  · have hsw : List.Perm (α := Nat × va_E) (w1 ++ [(aO, .inl (cJ, 1, .inr (.inl fo)))]) ((aO, .inl (cJ, 1, .inr (.inl fo))) :: w1) := (lz_pc _ w1).symm
    replace hP := lz_permP hsw hP
    replace hD := lz_permD hsw hD
    obtain ⟨hp1, rfl, hw9⟩ := hpo
    refine lv_i2l (v := (ctv n R x (tn z)).toInt64) hx hb dL_count_7 rfl ?_
    refine lz_last hx hb hKJ hP hD hS dL_count_8 (fun H locs hP hD hS => ?_)
    refine lv_goto (tgt := 15) hx hb dL_count_9 (by decide) ?_
    refine lv_iconst (v := nI 0) hx hb dL_count_15 (by decide) ?_
    exact W.iret hx hb hr (fun t9 ht9 _ => ⟨⟨_, (aO, .inl (cJ, 1, .inr (.inl (vp_updL fo 0 (ctv n R x (tn z)).toInt64)))) :: w1, rfl, ⟨0, w1, _, rfl, Or.inl ⟨hp1, trivial, trivial, rfl⟩, rfl, fun _ => ⟨rfl, hw9⟩, fun q => absurd rfl q⟩, by show va_P D vwCl _ t9.heap; rw [ht9]; exact hP⟩, hS.F ht9⟩) hS.2.2 dL_count_16

end HL
