/-! StateKeeperModel: inputs, late, the constructor -/
theorem rIn_app {n : Nat} {L : List rI} {e : rI} (h : rIn n L) (hl : L.length < 512) (he : e.1 < 2 ^ 30 ∧ e.2.1 < n ∧ e.2.2.1 ≤ 2 ∧ fF e.2.2.2) : rIn n (L ++ [e]) := by
  refine ⟨by rw [List.length_append]; show L.length + 1 ≤ 512; omega, fun y hy => ?_⟩
  rcases List.mem_append.mp hy with hy | hy
  · exact h.2 y hy
  · rw [List.mem_singleton.mp hy]; exact he
abbrev app (L : List rI) (e : rI) : List rI := L ++ [e]
theorem iz_add {a : Nat} {z : Int32} (ha : a ≤ 512) (h : 1 ≤ z.toInt ∧ z.toInt ≤ 256) : (nI a + z).toInt = (a : Int) + z.toInt := by
  rw [Int32.toInt_add, nI_toInt (by omega)]
  exact Int.bmod_eq_of_le (by omega) (by omega)
theorem ev_cell2 {z b : Int32} {n i : Nat} (h : 0 ≤ z.toInt + (i : Int) * b.toInt ∧ z.toInt + (i : Int) * b.toInt < (n : Int)) (hn : n ≤ 256) (hi : i < 256) : z + b * nI i = nI (z.toInt + (i : Int) * b.toInt).toNat := by
  rw [← ev_cell h hn hi, Int32.mul_comm]
section X4c
variable {l : Launch} {D : va_G} {cI cF cQ : ClassId} {aT sz : Nat} {u : Nat → Nat} {n ev : Nat} {th : Int32} {R : List dI} {x : St} {w : va_W}
set_option maxRecDepth 100000 in
set_option maxHeartbeats 4000000 in
/-- late(step, cell, way, v) -/
theorem c_X4_late {t z q : Int32} {v : UInt32} (hw : WM cI cF u n ev th R x w) (hx0 : Ok n ev R x) : Met l yX4_late wsX4_late (rmk 4 0 0) (pcW l D cI cF cQ aT [.ref (u 0), .int t, .int z, .int q, .float v] w sz) (va_Qi (fun (r : Int32) (w1 : va_W) => ∃ k, cdR (kn n z) (okW q v ∧ 0 ≤ t.toInt ∧ t.toInt ≤ (sT x : Int)) (1 + (sL x).length ≤ 512 ∧ 0 < hsn (sS x) t.toInt) k ∧ (k = 0 → r = (ltv (sS x) (sT x) t.toInt) ∧ WM cI cF u n ev (nI k) R (ltx n R ev (stL x (sL x ++ [(tn t, tn z, tn q, v)])) t.toInt) w1) ∧ (k ≠ 0 → WM cI cF u n ev (nI k) R x w1)) (fun w1 t => va_P D vwCl w1 t.heap) (va_A w sz)) 0 0 (va_A w sz) := by
  obtain ⟨r1, r2, r3, f1, f2, f3, f4, k1, kc, hdr, hrec, hks, rfl⟩ := id hw
  refine lz_ofM (Qf := fun A => va_Qi (fun (r : Int32) (w1 : va_W) => ∃ k, cdR (kn n z) (okW q v ∧ 0 ≤ t.toInt ∧ t.toInt ≤ (sT x : Int)) (1 + (sL x).length ≤ 512 ∧ 0 < hsn (sS x) t.toInt) k ∧ (k = 0 → r = (ltv (sS x) (sT x) t.toInt) ∧ WM cI cF u n ev (nI k) R (ltx n R ev (stL x (sL x ++ [(tn t, tn z, tn q, v)])) t.toInt) w1) ∧ (k ≠ 0 → WM cI cF u n ev (nI k) R x w1)) (fun w1 t => va_P D vwCl w1 t.heap) A) (cc := cX4_late) (maxL := 11) (ret := (some .int)) (by decide) rfl (Nat.le_of_ble_eq_true rfl) ?_
  intro p e s m below meth c A hAe hsz hx hb hr hlk hin hC hP hD hS ls hl
  clear hAe
  have hts := hC.1.2.2.2.2
  have hown : s.vm.findClass RX4 = some m.cls := hC.1.2.2.2.1
  have hml := hC.1.2.2.1
  have hA := hC.2.1
  have hK := hC.2.2.2.1
  have hnm := hC.2.2.2.2.1
  have hnf := hC.2.2.2.2.2.1
  have hiX4 : ∀ w ∈ u_ws RX4 TX4 18, w ∈ wsX4_late := fun _ h => List.mem_cons_of_mem _ (List.mem_append_right _ h)
  have hl : lv_has ls 11 [(0, .ref (u 0)), (1, .int t), (2, .int z), (3, .int q), (4, .float v)] := hl
  have hn9 := hx0.1.2
  have hn1 := hx0.1.1
  have hev9 := hx0.2.1
  have hR9 : dIn n R := hx0.2.2.1
  have hcf : cfin (sc x) := hx0.2.2.2.1
  have hT9 : sT x < 2 ^ 29 := hx0.2.2.2.2.1
  have hL9 : rIn n (sL x) := hx0.2.2.2.2.2.1
  have hS9 : sGood (sS x) := hx0.2.2.2.2.2.2.1
  have hL8 := hL9.1
  have hS8 := hS9.2.1
  have hR8 := hR9.1
  have hhl := hsn_le (sS x) t.toInt
  have hnow : t.toInt = (sT x : Int) → 0 < hsn (sS x) t.toInt := fun h9 => by
    obtain ⟨e0, he0⟩ : ∃ e0, (sS x)[0]? = some e0 := ⟨_, List.getElem?_eq_getElem hx0.2.2.2.2.2.2.2.2⟩
    have h8 := (hx0.2.2.2.2.2.2.2.1 e0 (List.mem_of_getElem? he0)).2
    exact (hsn_iff hS9.1 he0).mp (by rw [h9]; omega)
  have j0 : ∀ b5 : Int32, bz (0 ≤ t.toInt ∧ t.toInt ≤ (sT x : Int)) b5 → W p l e (rmk 4 0 0) s m [.ref (u 0), .int t, .int z, .int q, .float v].toArray below meth c s.heap [] 0 0 (MQ below (va_Qi (fun (r : Int32) (w1 : va_W) => ∃ k, cdR (kn n z) (okW q v ∧ 0 ≤ t.toInt ∧ t.toInt ≤ (sT x : Int)) (1 + (sL x).length ≤ 512 ∧ 0 < hsn (sS x) t.toInt) k ∧ (k = 0 → r = (ltv (sS x) (sT x) t.toInt) ∧ WM cI cF u n ev (nI k) R (ltx n R ev (stL x (sL x ++ [(tn t, tn z, tn q, v)])) t.toInt) w1) ∧ (k ≠ 0 → WM cI cF u n ev (nI k) R x w1)) (fun w1 t => va_P D vwCl w1 t.heap) A) [.ref (u 0), .int t, .int z, .int q, .float v].toArray s 0 0 A) (F0 m 17 ls [.int b5]) := by
    intro b5 h5
    refine lv_istore (lv' := [(5, .int b5), (0, .ref (u 0)), (1, .int t), (2, .int z), (3, .int q), (4, .float v)]) hx hb dX4_late_17 hl (by decide) rfl (fun ls hl => ?_)
    refine lv_aload_n hx hb dX4_late_19 rfl (lv_at hl 1 rfl) ?_
    refine lv_iload_n hx hb dX4_late_20 rfl (lv_at hl 2 rfl) ?_
    refine vp_callSi (lz_runV (C := RX4) (As := [.int t]) (rest := []) hC hS hl (c_X4_highest hS9 hw) (cwV 1 hts gX4_late_X4_highest rfl rfl rfl (by decide +kernel) ⟨Nat.le_of_ble_eq_true rfl, Nat.le_of_ble_eq_true rfl⟩) hP hD (va_recv hK hP (ci := 4) (q0 := 0) rfl rfl) rfl rfl (Nat.le_of_ble_eq_true rfl) dX4_late_21 ⟨Nat.le_of_ble_eq_true rfl, Nat.le_of_ble_eq_true rfl⟩).run (fun r_1 er_1 => ?_)
    subst er_1
    refine lv_istore (lv' := [(6, .int (nI (hsn (sS x) t.toInt) - 1)), (5, .int b5), (0, .ref (u 0)), (1, .int t), (2, .int z), (3, .int q), (4, .float v)]) hx hb dX4_late_24 hl (by decide) rfl (fun ls hl => ?_)
    have hl : lv_has ls 11 [(6, .int (nI (hsn (sS x) t.toInt) - 1)), (5, .int b5), (0, .ref (u 0)), (1, .int t), (2, .int z), (3, .int q), (4, .float v)] := hl
    have j3 : ∀ b1 b2 b3 : Int32, bz (kn n z) b1 → bz (okW q v ∧ 0 ≤ t.toInt ∧ t.toInt ≤ (sT x : Int)) b2 → bz ((sL x).length < 512 ∧ (t.toInt = (sT x : Int) ∨ 0 < hsn (sS x) t.toInt)) b3 → W p l e (rmk 4 0 0) s m [.ref (u 0), .int t, .int z, .int q, .float v].toArray below meth c s.heap [] 0 0 (MQ below (va_Qi (fun (r : Int32) (w1 : va_W) => ∃ k, cdR (kn n z) (okW q v ∧ 0 ≤ t.toInt ∧ t.toInt ≤ (sT x : Int)) (1 + (sL x).length ≤ 512 ∧ 0 < hsn (sS x) t.toInt) k ∧ (k = 0 → r = (ltv (sS x) (sT x) t.toInt) ∧ WM cI cF u n ev (nI k) R (ltx n R ev (stL x (sL x ++ [(tn t, tn z, tn q, v)])) t.toInt) w1) ∧ (k ≠ 0 → WM cI cF u n ev (nI k) R x w1)) (fun w1 t => va_P D vwCl w1 t.heap) A) [.ref (u 0), .int t, .int z, .int q, .float v].toArray s 0 0 A) (F0 m 87 ls [.int b3, .int b2, .int b1, .ref (u 0)]) := by
      intro b1 b2 b3 h1 h2 h3
      refine lz_cMi0 (lz_runV (C := RX4) (As := [.int b1, .int b2, .int b3]) (rest := []) hC hS hl (c_X4_goes h1 h2 h3 hw) (cwV 3 hts gX4_late_X4_goes rfl rfl rfl (by decide +kernel) ⟨Nat.le_of_ble_eq_true rfl, Nat.le_of_ble_eq_true rfl⟩) hP hD (va_recv hK hP (ci := 4) (q0 := 0) rfl rfl) rfl rfl (Nat.le_of_ble_eq_true rfl) dX4_late_87 ⟨Nat.le_of_ble_eq_true rfl, Nat.le_of_ble_eq_true rfl⟩) hD hS hA (fun r w1 h => by obtain ⟨k, -, -, h⟩ := h; exact h.ad2 hw) (fun r_2 w1 H locs hpo hP hD hS => ?_)
      obtain ⟨k9, hk9, hb9, hw9⟩ := hpo
      have hk8 := cdR_imp (Q3 := 1 + (sL x).length ≤ 512 ∧ 0 < hsn (sS x) t.toInt) (fun hp1 hp2 => ⟨fun q9 => ⟨by omega, q9.2.elim hnow id⟩, fun q9 => ⟨by omega, Or.inr q9.2⟩⟩) hk9
      refine lv_if_ne (tgt := 95) hx hb dX4_late_90 (by decide) (fun c_3 => ?_) (fun c_3 => ?_)
      · have hk0 : k9 = 0 := bz_1 hb9 c_3
        subst hk0
        have hpp := cdR_0 hk9 rfl
        obtain ⟨r1, r2, r3, f1, f2, f3, f4, k1, kc, hdr, hrec, hks, rfl⟩ := id hw9
        have hP : va_P D vwCl ([((u 0), .inr (4, [.int (nI 0), .int (nI n), .ref (u 1), .int (nI (sT x)), .int (nI ev), .int (sd x), .int (nI R.length), .ref (u 2), .ref (u 3), .ref (u 4), .int (nI ((sL x).length)), .ref (u 5), .ref (u 6), .ref (u 7), .ref (u 8), .int (nI ((sS x).length)), .ref (u 9), .ref (u 10)])), ((u 1), .inl (cF, 256, .inr (.inr (.inl (sc x))))), ((u 2), .inl (cI, 64, .inl r1)), ((u 3), .inl (cI, 64, .inl r2)), ((u 4), .inl (cF, 64, .inr (.inr (.inl r3)))), ((u 5), .inl (cI, 512, .inl f1)), ((u 6), .inl (cI, 512, .inl f2)), ((u 7), .inl (cI, 512, .inl f3)), ((u 8), .inl (cF, 512, .inr (.inr (.inl f4)))), ((u 9), .inl (cI, 16, .inl k1)), ((u 10), .inl (cF, 4096, .inr (.inr (.inl kc))))]) H := hP
        have hD : va_D A ([((u 0), .inr (4, [.int (nI 0), .int (nI n), .ref (u 1), .int (nI (sT x)), .int (nI ev), .int (sd x), .int (nI R.length), .ref (u 2), .ref (u 3), .ref (u 4), .int (nI ((sL x).length)), .ref (u 5), .ref (u 6), .ref (u 7), .ref (u 8), .int (nI ((sS x).length)), .ref (u 9), .ref (u 10)])), ((u 1), .inl (cF, 256, .inr (.inr (.inl (sc x))))), ((u 2), .inl (cI, 64, .inl r1)), ((u 3), .inl (cI, 64, .inl r2)), ((u 4), .inl (cF, 64, .inr (.inr (.inl r3)))), ((u 5), .inl (cI, 512, .inl f1)), ((u 6), .inl (cI, 512, .inl f2)), ((u 7), .inl (cI, 512, .inl f3)), ((u 8), .inl (cF, 512, .inr (.inr (.inl f4)))), ((u 9), .inl (cI, 16, .inl k1)), ((u 10), .inl (cF, 4096, .inr (.inr (.inl kc))))]) := hD
        obtain ⟨hz9, ⟨hq9, ht1, ht2⟩, hlt, hh9⟩ := hpp
        have hh : 0 < hsn (sS x) t.toInt := hh9.elim hnow id
        have hat : nI (hsn (sS x) t.toInt) - 1 = nI (hsn (sS x) t.toInt - 1) := pk_sub hh
        obtain ⟨z0, hz8, rfl, hz⟩ := iz_nat hz9.1
        obtain ⟨q0, hq8, rfl, hq⟩ := iz_nat hq9.1.1
        obtain ⟨t0, ht8, rfl, ht⟩ := iz_nat ht1
        rw [hat] at hl
        have hl : lv_has ls 11 [(6, .int (nI (hsn (sS x) (nI t0).toInt - 1))), (5, .int b5), (0, .ref (u 0)), (1, .int (nI t0)), (2, .int (nI z0)), (3, .int (nI q0)), (4, .float v)] := hl
        refine lv_aload_n hx hb dX4_late_95 rfl (lv_at hl 2 rfl) ?_
        refine lv_iload_n hx hb dX4_late_96 rfl (lv_at hl 3 rfl) ?_
        refine lv_iload_n hx hb dX4_late_97 rfl (lv_at hl 4 rfl) ?_
        refine lv_iload_n hx hb dX4_late_98 rfl (lv_at hl 5 rfl) ?_
        refine lv_fload hx hb dX4_late_99 (lv_at hl 6 rfl) ?_
        refine lz_cMv0 (lz_runV (C := RX4) (As := [.int (nI t0), .int (nI z0), .int (nI q0), .float v]) (rest := []) hC hS hl (c_X4_put (t := t0) (a := z0) (q := q0) (v := v) (by omega) hw9) (cwV 4 hts gX4_late_X4_put rfl rfl rfl (by decide +kernel) ⟨Nat.le_of_ble_eq_true rfl, Nat.le_of_ble_eq_true rfl⟩) hP hD (va_recv hK hP (ci := 4) (q0 := 0) rfl rfl) rfl rfl (Nat.le_of_ble_eq_true rfl) dX4_late_101 ⟨Nat.le_of_ble_eq_true rfl, Nat.le_of_ble_eq_true rfl⟩) hD hS hA (fun w1 h => h.ad2 hw9) (fun w1 H locs hpo hP hD hS => ?_)
        have hw8 := hpo
        have hen : rIn n (sL x ++ [(t0, z0, q0, v)]) := rIn_app hL9 (by omega) ⟨by show t0 < 2 ^ 30; omega, by show z0 < n; omega, by show q0 ≤ 2; omega, inF_F cN_F cP_F hq9.2⟩
        have hrw : sL x ++ [(tn (nI t0), tn (nI z0), tn (nI q0), v)] = (sL x ++ [(t0, z0, q0, v)]) := by rw [tn_nI ht8, tn_nI hz8, tn_nI hq8]
        obtain ⟨r4, r5, r6, g1, g2, g3, g4, m1, m2, hdr2, hrec2, hks2, rfl⟩ := id hw8
        have hP : va_P D vwCl ([((u 0), .inr (4, [.int (nI 0), .int (nI n), .ref (u 1), .int (nI (sT x)), .int (nI ev), .int (sd x), .int (nI R.length), .ref (u 2), .ref (u 3), .ref (u 4), .int (nI ((sL x ++ [(t0, z0, q0, v)]).length)), .ref (u 5), .ref (u 6), .ref (u 7), .ref (u 8), .int (nI ((sS x).length)), .ref (u 9), .ref (u 10)])), ((u 1), .inl (cF, 256, .inr (.inr (.inl (sc x))))), ((u 2), .inl (cI, 64, .inl r4)), ((u 3), .inl (cI, 64, .inl r5)), ((u 4), .inl (cF, 64, .inr (.inr (.inl r6)))), ((u 5), .inl (cI, 512, .inl g1)), ((u 6), .inl (cI, 512, .inl g2)), ((u 7), .inl (cI, 512, .inl g3)), ((u 8), .inl (cF, 512, .inr (.inr (.inl g4)))), ((u 9), .inl (cI, 16, .inl m1)), ((u 10), .inl (cF, 4096, .inr (.inr (.inl m2))))]) H := hP
        have hD : va_D A ([((u 0), .inr (4, [.int (nI 0), .int (nI n), .ref (u 1), .int (nI (sT x)), .int (nI ev), .int (sd x), .int (nI R.length), .ref (u 2), .ref (u 3), .ref (u 4), .int (nI ((sL x ++ [(t0, z0, q0, v)]).length)), .ref (u 5), .ref (u 6), .ref (u 7), .ref (u 8), .int (nI ((sS x).length)), .ref (u 9), .ref (u 10)])), ((u 1), .inl (cF, 256, .inr (.inr (.inl (sc x))))), ((u 2), .inl (cI, 64, .inl r4)), ((u 3), .inl (cI, 64, .inl r5)), ((u 4), .inl (cF, 64, .inr (.inr (.inl r6)))), ((u 5), .inl (cI, 512, .inl g1)), ((u 6), .inl (cI, 512, .inl g2)), ((u 7), .inl (cI, 512, .inl g3)), ((u 8), .inl (cF, 512, .inr (.inr (.inl g4)))), ((u 9), .inl (cI, 16, .inl m1)), ((u 10), .inl (cF, 4096, .inr (.inr (.inl m2))))]) := hD
        refine lv_iload_n hx hb dX4_late_104 rfl (lv_at hl 3 rfl) ?_
        refine lv_aload_n hx hb dX4_late_105 rfl (lv_at hl 2 rfl) ?_
        refine va_get (D := D) (ci := 4) (v := .int (nI (sT x))) (C := RX4) (T := TX4) (N := 18) hx hb hts hiX4 hown hK hP 0 rfl rfl 3 (by decide) (hts (.fieldLink RX4 62 "StateKeeperModel" "now" "I") (List.mem_of_getElem? (i := 1) rfl)) (fun _ h9 => h9) rfl dX4_late_106 ?_
        refine lv_icmp_ne (tgt := 114) hx hb dX4_late_109 (by decide) (fun c_4 => ?_) (fun c_4 => ?_)
        · have hTt : ¬ (nI t0).toInt = (sT x : Int) := fun q => c_4 (congrArg nI (by omega))
          obtain ⟨ee, hj⟩ : ∃ ee, (sS x)[hsn (sS x) (nI t0).toInt - 1]? = some ee := ⟨_, List.getElem?_eq_getElem (by omega)⟩
          have hle : ee.1 ≤ sT x := (hx0.2.2.2.2.2.2.2.1 ee (List.mem_of_getElem? hj)).2
          refine lv_aload_n hx hb dX4_late_114 rfl (lv_at hl 2 rfl) ?_
          refine va_get (D := D) (ci := 4) (v := .int (nI (sT x))) (C := RX4) (T := TX4) (N := 18) hx hb hts hiX4 hown hK hP 0 rfl rfl 3 (by decide) (hts (.fieldLink RX4 62 "StateKeeperModel" "now" "I") (List.mem_of_getElem? (i := 1) rfl)) (fun _ h9 => h9) rfl dX4_late_115 ?_
          refine lv_istore (lv' := [(7, .int (nI (sT x))), (6, .int (nI (hsn (sS x) (nI t0).toInt - 1))), (5, .int b5), (0, .ref (u 0)), (1, .int (nI t0)), (2, .int (nI z0)), (3, .int (nI q0)), (4, .float v)]) hx hb dX4_late_118 hl (by decide) rfl (fun ls hl => ?_)
          refine lv_aload_n hx hb dX4_late_120 rfl (lv_at hl 3 rfl) ?_
          refine lv_iload hx hb dX4_late_121 (lv_at hl 1 rfl) ?_
          refine lz_cMi0 (lz_runV (C := RX4) (As := [.int (nI (hsn (sS x) (nI t0).toInt - 1))]) (rest := []) hC hS hl (c_X4_goBack (x := stL x (sL x ++ [(t0, z0, q0, v)])) hj hS8 hn9 hw8) (cwV 1 hts gX4_late_X4_goBack rfl rfl rfl (by decide +kernel) ⟨Nat.le_of_ble_eq_true rfl, Nat.le_of_ble_eq_true rfl⟩) hP hD (va_recv hK hP (ci := 4) (q0 := 0) rfl rfl) rfl rfl (Nat.le_of_ble_eq_true rfl) dX4_late_123 ⟨Nat.le_of_ble_eq_true rfl, Nat.le_of_ble_eq_true rfl⟩) hD hS hA (fun r w1 h => h.2.ad2 hw8) (fun r_5 w1 H locs hpo hP hD hS => ?_)
          obtain ⟨-, hw7⟩ := hpo
          obtain ⟨r7, r8, r9, g5, g6, g7, g8, m3, m4, hdr3, hrec3, hks3, rfl⟩ := id hw7
          have hP : va_P D vwCl ([((u 0), .inr (4, [.int (nI 0), .int (nI n), .ref (u 1), .int (nI ee.1), .int (nI ev), .int (sd x), .int (nI R.length), .ref (u 2), .ref (u 3), .ref (u 4), .int (nI ((sL x ++ [(t0, z0, q0, v)]).length)), .ref (u 5), .ref (u 6), .ref (u 7), .ref (u 8), .int (nI (((sS x).take (hsn (sS x) (nI t0).toInt - 1 + 1)).length)), .ref (u 9), .ref (u 10)])), ((u 1), .inl (cF, 256, .inr (.inr (.inl (va_cpy ee.2 (sc x) 0 0 n))))), ((u 2), .inl (cI, 64, .inl r7)), ((u 3), .inl (cI, 64, .inl r8)), ((u 4), .inl (cF, 64, .inr (.inr (.inl r9)))), ((u 5), .inl (cI, 512, .inl g5)), ((u 6), .inl (cI, 512, .inl g6)), ((u 7), .inl (cI, 512, .inl g7)), ((u 8), .inl (cF, 512, .inr (.inr (.inl g8)))), ((u 9), .inl (cI, 16, .inl m3)), ((u 10), .inl (cF, 4096, .inr (.inr (.inl m4))))]) H := hP
          have hD : va_D A ([((u 0), .inr (4, [.int (nI 0), .int (nI n), .ref (u 1), .int (nI ee.1), .int (nI ev), .int (sd x), .int (nI R.length), .ref (u 2), .ref (u 3), .ref (u 4), .int (nI ((sL x ++ [(t0, z0, q0, v)]).length)), .ref (u 5), .ref (u 6), .ref (u 7), .ref (u 8), .int (nI (((sS x).take (hsn (sS x) (nI t0).toInt - 1 + 1)).length)), .ref (u 9), .ref (u 10)])), ((u 1), .inl (cF, 256, .inr (.inr (.inl (va_cpy ee.2 (sc x) 0 0 n))))), ((u 2), .inl (cI, 64, .inl r7)), ((u 3), .inl (cI, 64, .inl r8)), ((u 4), .inl (cF, 64, .inr (.inr (.inl r9)))), ((u 5), .inl (cI, 512, .inl g5)), ((u 6), .inl (cI, 512, .inl g6)), ((u 7), .inl (cI, 512, .inl g7)), ((u 8), .inl (cF, 512, .inr (.inr (.inl g8)))), ((u 9), .inl (cI, 16, .inl m3)), ((u 10), .inl (cF, 4096, .inr (.inr (.inl m4))))]) := hD
          refine lv_istore (lv' := [(8, .int r_5), (7, .int (nI (sT x))), (6, .int (nI (hsn (sS x) (nI t0).toInt - 1))), (5, .int b5), (0, .ref (u 0)), (1, .int (nI t0)), (2, .int (nI z0)), (3, .int (nI q0)), (4, .float v)]) hx hb dX4_late_126 hl (by decide) rfl (fun ls hl => ?_)
          refine lv_iload hx hb dX4_late_128 (lv_at hl 1 rfl) ?_
          refine lv_aload_n hx hb dX4_late_130 rfl (lv_at hl 4 rfl) ?_
          refine va_get (D := D) (ci := 4) (v := .int (nI ee.1)) (C := RX4) (T := TX4) (N := 18) hx hb hts hiX4 hown hK hP 0 rfl rfl 3 (by decide) (hts (.fieldLink RX4 62 "StateKeeperModel" "now" "I") (List.mem_of_getElem? (i := 1) rfl)) (fun _ h9 => h9) rfl dX4_late_131 ?_
          refine lv_isub hx hb dX4_late_134 ?_
          refine lz_i (pk_sub hle) ?_
          refine lv_istore (lv' := [(9, .int (nI ((sT x) - ee.1))), (8, .int r_5), (7, .int (nI (sT x))), (6, .int (nI (hsn (sS x) (nI t0).toInt - 1))), (5, .int b5), (0, .ref (u 0)), (1, .int (nI t0)), (2, .int (nI z0)), (3, .int (nI q0)), (4, .float v)]) hx hb dX4_late_135 hl (by decide) rfl (fun ls hl => ?_)
          refine lv_iconst (v := nI 0) hx hb dX4_late_137 (by decide) ?_
          refine lv_istore (lv' := [(10, .int (nI 0)), (9, .int (nI ((sT x) - ee.1))), (8, .int r_5), (7, .int (nI (sT x))), (6, .int (nI (hsn (sS x) (nI t0).toInt - 1))), (5, .int b5), (0, .ref (u 0)), (1, .int (nI t0)), (2, .int (nI z0)), (3, .int (nI q0)), (4, .float v)]) hx hb dX4_late_138 hl (by decide) rfl (fun ls hl => ?_)
          have loop : ∀ (r i : Nat), r + i = (sT x - ee.1) → ∀ (y : St) (w : va_W), WM cI cF u n ev (nI 0) R y w → Ok n ev R y → sT y + r < 2 ^ 29 → stps R ev r y = stps R ev (sT x - ee.1) (gb n (stL x (sL x ++ [(t0, z0, q0, v)])) (hsn (sS x) (nI t0).toInt - 1) ee) → ∀ (H : Heap) (locs : List Loc) (ls : Array Slot), va_P D vwCl w H → va_D A w → va_S A s.heap H locs → lv_has ls 11 [(10, .int (nI i)), (9, .int (nI ((sT x) - ee.1))), (8, .int r_5), (7, .int (nI (sT x))), (6, .int (nI (hsn (sS x) (nI t0).toInt - 1))), (5, .int b5), (0, .ref (u 0)), (1, .int (nI t0)), (2, .int (nI z0)), (3, .int (nI q0)), (4, .float v)] → W p l e (rmk 4 0 0) s m [.ref (u 0), .int (nI t0), .int (nI z0), .int (nI q0), .float v].toArray below meth c H locs 0 0 (MQ below (va_Qi (fun (r : Int32) (w1 : va_W) => ∃ k, cdR (kn n (nI z0)) (okW (nI q0) v ∧ 0 ≤ (nI t0).toInt ∧ (nI t0).toInt ≤ (sT x : Int)) (1 + (sL x).length ≤ 512 ∧ 0 < hsn (sS x) (nI t0).toInt) k ∧ (k = 0 → r = (ltv (sS x) (sT x) (nI t0).toInt) ∧ WM cI cF u n ev (nI k) R (ltx n R ev (stL x (sL x ++ [(tn (nI t0), tn (nI z0), tn (nI q0), v)])) (nI t0).toInt) w1) ∧ (k ≠ 0 → WM cI cF u n ev (nI k) R x w1)) (fun w1 t => va_P D vwCl w1 t.heap) A) [.ref (u 0), .int (nI t0), .int (nI z0), .int (nI q0), .float v].toArray s 0 0 A) (F0 m 140 ls []) := by
            intro r
            induction r with
            | zero =>
              intro i h1 y w hw hx0 hT he H locs ls hP hD hS hl
              have hl : lv_has ls 11 [(10, .int (nI i)), (9, .int (nI ((sT x) - ee.1))), (8, .int r_5), (7, .int (nI (sT x))), (6, .int (nI (hsn (sS x) (nI t0).toInt - 1))), (5, .int b5), (0, .ref (u 0)), (1, .int (nI t0)), (2, .int (nI z0)), (3, .int (nI q0)), (4, .float v)] := hl
              refine lv_iload hx hb dX4_late_140 (lv_at hl 0 rfl) ?_
              refine lv_iload hx hb dX4_late_142 (lv_at hl 1 rfl) ?_
              refine lv_icmp_ge (tgt := 157) hx hb dX4_late_144 (by decide) (fun c_6 => ?_) (fun c_6 => absurd (nI_le (by omega) (by omega)) c_6)
              refine lv_iload hx hb dX4_late_157 (lv_at hl 1 rfl) ?_
              exact W.iret hx hb hr (fun t9 ht9 _ => ⟨⟨_, w, rfl, ⟨0, hk8, fun _ => ⟨by unfold ltv; rw [if_neg hTt, hj], by rw [hrw]; unfold ltx; rw [if_neg (show ¬ (nI t0).toInt = (sT (stL x (sL x ++ [(t0, z0, q0, v)])) : Int) from hTt), show (sS (stL x (sL x ++ [(t0, z0, q0, v)])))[hsn (sS (stL x (sL x ++ [(t0, z0, q0, v)]))) (nI t0).toInt - 1]? = some ee from hj]; exact (show WM cI cF u n ev (nI 0) R (stps R ev (sT x - ee.1) (gb n (stL x (sL x ++ [(t0, z0, q0, v)])) (hsn (sS x) (nI t0).toInt - 1) ee)) w from he ▸ (show WM cI cF u n ev (nI 0) R (stps R ev 0 y) w from hw))⟩, fun q => absurd rfl q⟩, by show va_P D vwCl _ t9.heap; rw [ht9]; exact hP⟩, hS.F ht9⟩) hS.2.2 dX4_late_159
            | succ r ih =>
              intro i h1 y w hw hx0 hT he H locs ls hP hD hS hl
              have hl : lv_has ls 11 [(10, .int (nI i)), (9, .int (nI ((sT x) - ee.1))), (8, .int r_5), (7, .int (nI (sT x))), (6, .int (nI (hsn (sS x) (nI t0).toInt - 1))), (5, .int b5), (0, .ref (u 0)), (1, .int (nI t0)), (2, .int (nI z0)), (3, .int (nI q0)), (4, .float v)] := hl
              refine lv_iload hx hb dX4_late_140 (lv_at hl 0 rfl) ?_
              refine lv_iload hx hb dX4_late_142 (lv_at hl 1 rfl) ?_
              refine lv_icmp_ge (tgt := 157) hx hb dX4_late_144 (by decide) (fun c1 => absurd c1 (nI_ge (by omega) (by omega))) (fun c1 => ?_)
              refine lv_aload_n hx hb dX4_late_147 rfl (lv_at hl 6 rfl) ?_
              have hP9 := id hP
              obtain ⟨r1, r2, r3, f1, f2, f3, f4, k1, kc, -, -, -, hw9⟩ := id hw
              rw [hw9] at hP9
              refine lz_cMv0 (lz_runV (C := RX4) (As := []) (rest := []) hC hS hl (c_X4_once hw hx0 (by omega)) (cwV 0 hts gX4_late_X4_once rfl rfl rfl (by decide +kernel) ⟨Nat.le_of_ble_eq_true rfl, Nat.le_of_ble_eq_true rfl⟩) hP hD (va_recv hK hP9 (ci := 4) (q0 := 0) rfl rfl) rfl rfl (Nat.le_of_ble_eq_true rfl) dX4_late_148 ⟨Nat.le_of_ble_eq_true rfl, Nat.le_of_ble_eq_true rfl⟩) hD hS hA (fun w1 h => h.ad2 hw) (fun w1 H locs hpo hP hD hS => ?_)
              have hw8 := hpo
              refine lv_iinc (v := nI (i + 1)) (lv' := [(10, .int (nI (i + 1))), (9, .int (nI ((sT x) - ee.1))), (8, .int r_5), (7, .int (nI (sT x))), (6, .int (nI (hsn (sS x) (nI t0).toInt - 1))), (5, .int b5), (0, .ref (u 0)), (1, .int (nI t0)), (2, .int (nI z0)), (3, .int (nI q0)), (4, .float v)]) hx hb dX4_late_151 hl (k := 0) rfl (nI_add _ 1) (by decide) rfl (fun ls hl => ?_)
              refine lv_goto (tgt := 140) hx hb dX4_late_154 (by decide) ?_
              exact ih (i + 1) (by omega) _ w1 hw8 (stp_ok hx0 (by omega)) (by rw [stp_T]; omega) he H locs ls hP hD hS (lv_sub hl [0, 1, 2, 3, 4, 5, 6, 7, 8, 9, 10] rfl)
          exact loop (sT x - ee.1) 0 (by omega) _ _ hw7 (gb_ok (Ok_L hx0 hen) hj) (by show ee.1 + (sT x - ee.1) < 2 ^ 29; omega) rfl H locs ls hP hD hS hl
        · have hTt : (nI t0).toInt = (sT x : Int) := by have := (nI_eq (by omega) (by omega)).mp c_4; omega
          refine lv_iconst (v := nI 0) hx hb dX4_late_112 (by decide) ?_
          exact W.iret hx hb hr (fun t9 ht9 _ => ⟨⟨_, [((u 0), .inr (4, [.int (nI 0), .int (nI n), .ref (u 1), .int (nI (sT x)), .int (nI ev), .int (sd x), .int (nI R.length), .ref (u 2), .ref (u 3), .ref (u 4), .int (nI ((sL x ++ [(t0, z0, q0, v)]).length)), .ref (u 5), .ref (u 6), .ref (u 7), .ref (u 8), .int (nI ((sS x).length)), .ref (u 9), .ref (u 10)])), ((u 1), .inl (cF, 256, .inr (.inr (.inl (sc x))))), ((u 2), .inl (cI, 64, .inl r4)), ((u 3), .inl (cI, 64, .inl r5)), ((u 4), .inl (cF, 64, .inr (.inr (.inl r6)))), ((u 5), .inl (cI, 512, .inl g1)), ((u 6), .inl (cI, 512, .inl g2)), ((u 7), .inl (cI, 512, .inl g3)), ((u 8), .inl (cF, 512, .inr (.inr (.inl g4)))), ((u 9), .inl (cI, 16, .inl m1)), ((u 10), .inl (cF, 4096, .inr (.inr (.inl m2))))], rfl, ⟨0, hk8, fun _ => ⟨by unfold ltv; rw [if_pos hTt], by rw [hrw]; unfold ltx; rw [if_pos (show (nI t0).toInt = (sT (stL x (sL x ++ [(t0, z0, q0, v)])) : Int) from hTt)]; exact hw8⟩, fun q => absurd rfl q⟩, by show va_P D vwCl _ t9.heap; rw [ht9]; exact hP⟩, hS.F ht9⟩) hS.2.2 dX4_late_113
      · have hk0 : ¬ k9 = 0 := bz_0 hb9 c_3
        refine lv_iconst (v := nI 0) hx hb dX4_late_93 (by decide) ?_
        exact W.iret hx hb hr (fun t9 ht9 _ => ⟨⟨_, w1, rfl, ⟨k9, hk8, fun q => absurd q hk0, fun _ => hw9⟩, by show va_P D vwCl _ t9.heap; rw [ht9]; exact hP⟩, hS.F ht9⟩) hS.2.2 dX4_late_94
    have j2 : ∀ b1 b2 : Int32, bz (kn n z) b1 → bz (okW q v ∧ 0 ≤ t.toInt ∧ t.toInt ≤ (sT x : Int)) b2 → W p l e (rmk 4 0 0) s m [.ref (u 0), .int t, .int z, .int q, .float v].toArray below meth c s.heap [] 0 0 (MQ below (va_Qi (fun (r : Int32) (w1 : va_W) => ∃ k, cdR (kn n z) (okW q v ∧ 0 ≤ t.toInt ∧ t.toInt ≤ (sT x : Int)) (1 + (sL x).length ≤ 512 ∧ 0 < hsn (sS x) t.toInt) k ∧ (k = 0 → r = (ltv (sS x) (sT x) t.toInt) ∧ WM cI cF u n ev (nI k) R (ltx n R ev (stL x (sL x ++ [(tn t, tn z, tn q, v)])) t.toInt) w1) ∧ (k ≠ 0 → WM cI cF u n ev (nI k) R x w1)) (fun w1 t => va_P D vwCl w1 t.heap) A) [.ref (u 0), .int t, .int z, .int q, .float v].toArray s 0 0 A) (F0 m 59 ls [.int b2, .int b1, .ref (u 0)]) := by
      intro b1 b2 h1 h2
      refine lv_aload_n hx hb dX4_late_59 rfl (lv_at hl 2 rfl) ?_
      refine va_get (D := D) (ci := 4) (v := .int (nI ((sL x).length))) (C := RX4) (T := TX4) (N := 18) hx hb hts hiX4 hown hK hP 0 rfl rfl 10 (by decide) (hts (.fieldLink RX4 65 "StateKeeperModel" "inputs" "I") (List.mem_of_getElem? (i := 2) rfl)) (fun _ h9 => h9) rfl dX4_late_60 ?_
      refine lv_sipush (v := nI 512) hx hb dX4_late_63 (by decide) ?_
      refine lv_icmp_ge (tgt := 86) hx hb dX4_late_66 (by decide) (fun c_7 => ?_) (fun c_7 => ?_)
      · refine lv_iconst (v := nI 0) hx hb dX4_late_86 (by decide) ?_
        exact j3 b1 b2 _ h1 h2 (Or.inr ⟨fun q9 => absurd ((nI_le_iff (by omega) (by omega)).mp c_7) (by omega), rfl⟩)
      · have e1 : (sL x).length < 512 := by have := mt (nI_le_iff (a := 512) (b := (sL x).length) (by omega) (by omega)).mpr c_7; omega
        refine lv_iload_n hx hb dX4_late_69 rfl (lv_at hl 3 rfl) ?_
        refine lv_aload_n hx hb dX4_late_70 rfl (lv_at hl 2 rfl) ?_
        refine va_get (D := D) (ci := 4) (v := .int (nI (sT x))) (C := RX4) (T := TX4) (N := 18) hx hb hts hiX4 hown hK hP 0 rfl rfl 3 (by decide) (hts (.fieldLink RX4 62 "StateKeeperModel" "now" "I") (List.mem_of_getElem? (i := 1) rfl)) (fun _ h9 => h9) rfl dX4_late_71 ?_
        refine lv_icmp_eq (tgt := 82) hx hb dX4_late_74 (by decide) (fun c_8 => ?_) (fun c_8 => ?_)
        · refine lv_iconst (v := nI 1) hx hb dX4_late_82 (by decide) ?_
          refine lv_goto (tgt := 87) hx hb dX4_late_83 (by decide) ?_
          exact j3 b1 b2 _ h1 h2 (Or.inl ⟨⟨e1, Or.inl ((iz_eq' (by omega)).mp c_8)⟩, rfl⟩)
        · have e2 : ¬ t.toInt = (sT x : Int) := fun q9 => c_8 ((iz_eq' (by omega)).mpr q9)
          refine lv_iload hx hb dX4_late_77 (lv_at hl 0 rfl) ?_
          refine lv_if_lt (tgt := 86) hx hb dX4_late_79 (by decide) (fun c_9 => ?_) (fun c_9 => ?_)
          · refine lv_iconst (v := nI 0) hx hb dX4_late_86 (by decide) ?_
            exact j3 b1 b2 _ h1 h2 (Or.inr ⟨fun q9 => absurd (iz_lt0.mp c_9) (by have hp := q9.2.resolve_left e2; rw [show nI (hsn (sS x) t.toInt) - 1 = nI (hsn (sS x) t.toInt - 1) from pk_sub hp, nI_toInt (by omega)]; omega), rfl⟩)
          · have e3 : 0 < hsn (sS x) t.toInt := Nat.pos_of_ne_zero (fun q9 => c_9 (by rw [q9]; decide))
            refine lv_iconst (v := nI 1) hx hb dX4_late_82 (by decide) ?_
            refine lv_goto (tgt := 87) hx hb dX4_late_83 (by decide) ?_
            exact j3 b1 b2 _ h1 h2 (Or.inl ⟨⟨e1, Or.inr e3⟩, rfl⟩)
    refine lv_aload_n hx hb dX4_late_26 rfl (lv_at hl 2 rfl) ?_
    refine lv_aload_n hx hb dX4_late_27 rfl (lv_at hl 2 rfl) ?_
    refine lv_iload_n hx hb dX4_late_28 rfl (lv_at hl 4 rfl) ?_
    refine vp_callSi (lz_runV (C := RX4) (As := [.int z]) (rest := [.ref (u 0)]) hC hS hl (c_X4_known hw hn9) (cwV 1 hts gX4_late_X4_known rfl rfl rfl (by decide +kernel) ⟨Nat.le_of_ble_eq_true rfl, Nat.le_of_ble_eq_true rfl⟩) hP hD (va_recv hK hP (ci := 4) (q0 := 0) rfl rfl) rfl rfl (Nat.le_of_ble_eq_true rfl) dX4_late_29 ⟨Nat.le_of_ble_eq_true rfl, Nat.le_of_ble_eq_true rfl⟩).run (fun x1 hx1 => ?_)
    refine lv_iload_n hx hb dX4_late_32 rfl (lv_at hl 5 rfl) ?_
    refine lv_if_lt (tgt := 58) hx hb dX4_late_33 (by decide) (fun c_10 => ?_) (fun c_10 => ?_)
    · refine lv_iconst (v := nI 0) hx hb dX4_late_58 (by decide) ?_
      exact j2 x1 _ hx1 (Or.inr ⟨fun q9 => absurd (iz_lt0.mp c_10) (by omega), rfl⟩)
    · have e1 : 0 ≤ q.toInt := by have := mt iz_lt0.mpr c_10; omega
      refine lv_iload_n hx hb dX4_late_36 rfl (lv_at hl 5 rfl) ?_
      refine lv_iconst (v := nI 2) hx hb dX4_late_37 (by decide) ?_
      refine lv_icmp_gt (tgt := 58) hx hb dX4_late_38 (by decide) (fun c_11 => ?_) (fun c_11 => ?_)
      · refine lv_iconst (v := nI 0) hx hb dX4_late_58 (by decide) ?_
        exact j2 x1 _ hx1 (Or.inr ⟨fun q9 => absurd ((iz_lt_l (a := 2) (by omega)).mp c_11) (by omega), rfl⟩)
      · have e2 : q.toInt ≤ 2 := by have := mt (iz_lt_l (a := 2) (by omega)).mpr c_11; omega
        refine lv_fload hx hb dX4_late_41 (lv_at hl 6 rfl) ?_
        refine vp_callSi (lz_runS (As := [.float v]) (rest := [.int x1, .ref (u 0)]) hC hS hl (c_X4_within (w := (mW cI cF u n ev th (sT x) (sd x) (sc x) R.length r1 r2 r3 (sL x).length f1 f2 f3 f4 (sS x).length k1 kc))) (va_cwS 1 hts gX4_late_X4_within rfl rfl rfl (by decide +kernel) ⟨Nat.le_of_ble_eq_true rfl, Nat.le_of_ble_eq_true rfl⟩) hP hD rfl rfl (Nat.le_of_ble_eq_true rfl) dX4_late_43 ⟨Nat.le_of_ble_eq_true rfl, Nat.le_of_ble_eq_true rfl⟩).run (fun x3 hx3 => ?_)
        refine lv_if_eq (tgt := 58) hx hb dX4_late_46 (by decide) (fun c_12 => ?_) (fun c_12 => ?_)
        · refine lv_iconst (v := nI 0) hx hb dX4_late_58 (by decide) ?_
          exact j2 x1 _ hx1 (Or.inr ⟨fun q9 => bz_0 hx3 c_12 q9.1.2, rfl⟩)
        · have e3 := bz_1 hx3 c_12
          refine lv_iload hx hb dX4_late_49 (lv_at hl 1 rfl) ?_
          refine lv_if_eq (tgt := 58) hx hb dX4_late_51 (by decide) (fun c_13 => ?_) (fun c_13 => ?_)
          · refine lv_iconst (v := nI 0) hx hb dX4_late_58 (by decide) ?_
            exact j2 x1 _ hx1 (Or.inr ⟨fun q9 => bz_0 h5 c_13 q9.2, rfl⟩)
          · refine lv_iconst (v := nI 1) hx hb dX4_late_54 (by decide) ?_
            refine lv_goto (tgt := 59) hx hb dX4_late_55 (by decide) ?_
            exact j2 x1 _ hx1 (Or.inl ⟨⟨⟨⟨e1, e2⟩, e3⟩, bz_1 h5 c_13⟩, rfl⟩)
  refine lv_iload_n hx hb dX4_late_0 rfl (lv_at hl 1 rfl) ?_
  refine lv_if_lt (tgt := 16) hx hb dX4_late_1 (by decide) (fun c_14 => ?_) (fun c_14 => ?_)
  · refine lv_iconst (v := nI 0) hx hb dX4_late_16 (by decide) ?_
    exact j0 _ (Or.inr ⟨fun q9 => absurd (iz_lt0.mp c_14) (by omega), rfl⟩)
  · have e1 : 0 ≤ t.toInt := by have := mt iz_lt0.mpr c_14; omega
    refine lv_iload_n hx hb dX4_late_4 rfl (lv_at hl 1 rfl) ?_
    refine lv_aload_n hx hb dX4_late_5 rfl (lv_at hl 0 rfl) ?_
    refine va_get (D := D) (ci := 4) (v := .int (nI (sT x))) (C := RX4) (T := TX4) (N := 18) hx hb hts hiX4 hown hK hP 0 rfl rfl 3 (by decide) (hts (.fieldLink RX4 62 "StateKeeperModel" "now" "I") (List.mem_of_getElem? (i := 1) rfl)) (fun _ h9 => h9) rfl dX4_late_6 ?_
    refine lv_icmp_gt (tgt := 16) hx hb dX4_late_9 (by decide) (fun c_15 => ?_) (fun c_15 => ?_)
    · refine lv_iconst (v := nI 0) hx hb dX4_late_16 (by decide) ?_
      exact j0 _ (Or.inr ⟨fun q9 => absurd ((iz_lt_l (by omega)).mp c_15) (by omega), rfl⟩)
    · have e2 : t.toInt ≤ (sT x : Int) := by have := mt (iz_lt_l (a := sT x) (by omega)).mpr c_15; omega
      refine lv_iconst (v := nI 1) hx hb dX4_late_12 (by decide) ?_
      refine lv_goto (tgt := 17) hx hb dX4_late_13 (by decide) ?_
      exact j0 _ (Or.inl ⟨⟨e1, e2⟩, rfl⟩)

set_option maxRecDepth 100000 in
set_option maxHeartbeats 4000000 in
/-- inputs(first, by, count, way, v) -/
theorem c_X4_inputs {z b c9 q : Int32} {v : UInt32} (hw : WM cI cF u n ev th R x w) (hx0 : Ok n ev R x) : Met l yX4_inputs wsX4_inputs (rmk 3 0 0) (pcW l D cI cF cQ aT [.ref (u 0), .int z, .int b, .int c9, .int q, .float v] w sz) (va_Qi (fun (r : Int32) (w1 : va_W) => ∃ k, cdR (kn n z ∧ ((1 ≤ c9.toInt ∧ c9.toInt ≤ 256) → (0 ≤ z.toInt + (c9.toInt - 1) * b.toInt ∧ z.toInt + (c9.toInt - 1) * b.toInt < (n : Int)))) ((1 ≤ c9.toInt ∧ c9.toInt ≤ 256) ∧ okW q v) (c9.toInt + ((sL x).length : Int) ≤ 512) k ∧ (k = 0 → r = (nI (cq (insN app (inN (sT x) z b q v) (tn c9) (sL x)) (sT x : Int))) ∧ WM cI cF u n ev (nI k) R (stL x (insN app (inN (sT x) z b q v) (tn c9) (sL x))) w1) ∧ (k ≠ 0 → WM cI cF u n ev (nI k) R x w1)) (fun w1 t => va_P D vwCl w1 t.heap) (va_A w sz)) 0 0 (va_A w sz) := by
  obtain ⟨r1, r2, r3, f1, f2, f3, f4, k1, kc, hdr, hrec, hks, rfl⟩ := id hw
  refine lz_ofM (Qf := fun A => va_Qi (fun (r : Int32) (w1 : va_W) => ∃ k, cdR (kn n z ∧ ((1 ≤ c9.toInt ∧ c9.toInt ≤ 256) → (0 ≤ z.toInt + (c9.toInt - 1) * b.toInt ∧ z.toInt + (c9.toInt - 1) * b.toInt < (n : Int)))) ((1 ≤ c9.toInt ∧ c9.toInt ≤ 256) ∧ okW q v) (c9.toInt + ((sL x).length : Int) ≤ 512) k ∧ (k = 0 → r = (nI (cq (insN app (inN (sT x) z b q v) (tn c9) (sL x)) (sT x : Int))) ∧ WM cI cF u n ev (nI k) R (stL x (insN app (inN (sT x) z b q v) (tn c9) (sL x))) w1) ∧ (k ≠ 0 → WM cI cF u n ev (nI k) R x w1)) (fun w1 t => va_P D vwCl w1 t.heap) A) (cc := cX4_inputs) (maxL := 11) (ret := (some .int)) (by decide) rfl (Nat.le_of_ble_eq_true rfl) ?_
  intro p e s m below meth c A hAe hsz hx hb hr hlk hin hC hP hD hS ls hl
  clear hAe
  have hts := hC.1.2.2.2.2
  have hown : s.vm.findClass RX4 = some m.cls := hC.1.2.2.2.1
  have hml := hC.1.2.2.1
  have hA := hC.2.1
  have hK := hC.2.2.2.1
  have hnm := hC.2.2.2.2.1
  have hnf := hC.2.2.2.2.2.1
  have hiX4 : ∀ w ∈ u_ws RX4 TX4 18, w ∈ wsX4_inputs := fun _ h => List.mem_cons_of_mem _ (List.mem_append_right _ h)
  have hl : lv_has ls 11 [(0, .ref (u 0)), (1, .int z), (2, .int b), (3, .int c9), (4, .int q), (5, .float v)] := hl
  have hn9 := hx0.1.2
  have hn1 := hx0.1.1
  have hev9 := hx0.2.1
  have hR9 : dIn n R := hx0.2.2.1
  have hcf : cfin (sc x) := hx0.2.2.2.1
  have hT9 : sT x < 2 ^ 29 := hx0.2.2.2.2.1
  have hL9 : rIn n (sL x) := hx0.2.2.2.2.2.1
  have hS9 : sGood (sS x) := hx0.2.2.2.2.2.2.1
  have hL8 := hL9.1
  have hS8 := hS9.2.1
  have hR8 := hR9.1
  have j0 : ∀ b6 : Int32, bz (1 ≤ c9.toInt ∧ c9.toInt ≤ 256) b6 → W p l e (rmk 3 0 0) s m [.ref (u 0), .int z, .int b, .int c9, .int q, .float v].toArray below meth c s.heap [] 0 0 (MQ below (va_Qi (fun (r : Int32) (w1 : va_W) => ∃ k, cdR (kn n z ∧ ((1 ≤ c9.toInt ∧ c9.toInt ≤ 256) → (0 ≤ z.toInt + (c9.toInt - 1) * b.toInt ∧ z.toInt + (c9.toInt - 1) * b.toInt < (n : Int)))) ((1 ≤ c9.toInt ∧ c9.toInt ≤ 256) ∧ okW q v) (c9.toInt + ((sL x).length : Int) ≤ 512) k ∧ (k = 0 → r = (nI (cq (insN app (inN (sT x) z b q v) (tn c9) (sL x)) (sT x : Int))) ∧ WM cI cF u n ev (nI k) R (stL x (insN app (inN (sT x) z b q v) (tn c9) (sL x))) w1) ∧ (k ≠ 0 → WM cI cF u n ev (nI k) R x w1)) (fun w1 t => va_P D vwCl w1 t.heap) A) [.ref (u 0), .int z, .int b, .int c9, .int q, .float v].toArray s 0 0 A) (F0 m 17 ls [.int b6]) := by
    intro b6 h6
    refine lv_istore (lv' := [(6, .int b6), (0, .ref (u 0)), (1, .int z), (2, .int b), (3, .int c9), (4, .int q), (5, .float v)]) hx hb dX4_inputs_17 hl (by decide) rfl (fun ls hl => ?_)
    have aft : ∀ (b7 : Int32), bz (kn n z ∧ ((1 ≤ c9.toInt ∧ c9.toInt ≤ 256) → (0 ≤ z.toInt + (c9.toInt - 1) * b.toInt ∧ z.toInt + (c9.toInt - 1) * b.toInt < (n : Int)))) b7 → ∀ ls : Array Slot, lv_has ls 11 [(7, .int b7), (6, .int b6), (0, .ref (u 0)), (1, .int z), (2, .int b), (3, .int c9), (4, .int q), (5, .float v)] → W p l e (rmk 3 0 0) s m [.ref (u 0), .int z, .int b, .int c9, .int q, .float v].toArray below meth c s.heap [] 0 0 (MQ below (va_Qi (fun (r : Int32) (w1 : va_W) => ∃ k, cdR (kn n z ∧ ((1 ≤ c9.toInt ∧ c9.toInt ≤ 256) → (0 ≤ z.toInt + (c9.toInt - 1) * b.toInt ∧ z.toInt + (c9.toInt - 1) * b.toInt < (n : Int)))) ((1 ≤ c9.toInt ∧ c9.toInt ≤ 256) ∧ okW q v) (c9.toInt + ((sL x).length : Int) ≤ 512) k ∧ (k = 0 → r = (nI (cq (insN app (inN (sT x) z b q v) (tn c9) (sL x)) (sT x : Int))) ∧ WM cI cF u n ev (nI k) R (stL x (insN app (inN (sT x) z b q v) (tn c9) (sL x))) w1) ∧ (k ≠ 0 → WM cI cF u n ev (nI k) R x w1)) (fun w1 t => va_P D vwCl w1 t.heap) A) [.ref (u 0), .int z, .int b, .int c9, .int q, .float v].toArray s 0 0 A) (F0 m 87 ls []) := by
      intro b7 h7 ls hl
      have hl : lv_has ls 11 [(7, .int b7), (6, .int b6), (0, .ref (u 0)), (1, .int z), (2, .int b), (3, .int c9), (4, .int q), (5, .float v)] := hl
      have j3 : ∀ b1 b2 b3 : Int32, bz (kn n z ∧ ((1 ≤ c9.toInt ∧ c9.toInt ≤ 256) → (0 ≤ z.toInt + (c9.toInt - 1) * b.toInt ∧ z.toInt + (c9.toInt - 1) * b.toInt < (n : Int)))) b1 → bz ((1 ≤ c9.toInt ∧ c9.toInt ≤ 256) ∧ okW q v) b2 → bz ((nI (sL x).length + c9).toInt ≤ 512) b3 → W p l e (rmk 3 0 0) s m [.ref (u 0), .int z, .int b, .int c9, .int q, .float v].toArray below meth c s.heap [] 0 0 (MQ below (va_Qi (fun (r : Int32) (w1 : va_W) => ∃ k, cdR (kn n z ∧ ((1 ≤ c9.toInt ∧ c9.toInt ≤ 256) → (0 ≤ z.toInt + (c9.toInt - 1) * b.toInt ∧ z.toInt + (c9.toInt - 1) * b.toInt < (n : Int)))) ((1 ≤ c9.toInt ∧ c9.toInt ≤ 256) ∧ okW q v) (c9.toInt + ((sL x).length : Int) ≤ 512) k ∧ (k = 0 → r = (nI (cq (insN app (inN (sT x) z b q v) (tn c9) (sL x)) (sT x : Int))) ∧ WM cI cF u n ev (nI k) R (stL x (insN app (inN (sT x) z b q v) (tn c9) (sL x))) w1) ∧ (k ≠ 0 → WM cI cF u n ev (nI k) R x w1)) (fun w1 t => va_P D vwCl w1 t.heap) A) [.ref (u 0), .int z, .int b, .int c9, .int q, .float v].toArray s 0 0 A) (F0 m 136 ls [.int b3, .int b2, .int b1, .ref (u 0)]) := by
        intro b1 b2 b3 h1 h2 h3
        refine lz_cMi0 (lz_runV (C := RX4) (As := [.int b1, .int b2, .int b3]) (rest := []) hC hS hl (c_X4_goes h1 h2 h3 hw) (cwV 3 hts gX4_inputs_X4_goes rfl rfl rfl (by decide +kernel) ⟨Nat.le_of_ble_eq_true rfl, Nat.le_of_ble_eq_true rfl⟩) hP hD (va_recv hK hP (ci := 4) (q0 := 0) rfl rfl) rfl rfl (Nat.le_of_ble_eq_true rfl) dX4_inputs_136 ⟨Nat.le_of_ble_eq_true rfl, Nat.le_of_ble_eq_true rfl⟩) hD hS hA (fun r w1 h => by obtain ⟨k, -, -, h⟩ := h; exact h.ad2 hw) (fun r_1 w1 H locs hpo hP hD hS => ?_)
        obtain ⟨k9, hk9, hb9, hw9⟩ := hpo
        have hk8 := cdR_imp (Q3 := (c9.toInt + ((sL x).length : Int) ≤ 512)) (fun hp1 hp2 => by have h9 := iz_add hL8 hp2.1; rw [h9]; omega) hk9
        refine lv_if_ne (tgt := 144) hx hb dX4_inputs_139 (by decide) (fun c_2 => ?_) (fun c_2 => ?_)
        · have hk0 : k9 = 0 := bz_1 hb9 c_2
          subst hk0
          have hpp := cdR_0 hk9 rfl
          obtain ⟨r1, r2, r3, f1, f2, f3, f4, k1, kc, hdr, hrec, hks, rfl⟩ := id hw9
          have hP : va_P D vwCl ([((u 0), .inr (4, [.int (nI 0), .int (nI n), .ref (u 1), .int (nI (sT x)), .int (nI ev), .int (sd x), .int (nI R.length), .ref (u 2), .ref (u 3), .ref (u 4), .int (nI ((sL x).length)), .ref (u 5), .ref (u 6), .ref (u 7), .ref (u 8), .int (nI ((sS x).length)), .ref (u 9), .ref (u 10)])), ((u 1), .inl (cF, 256, .inr (.inr (.inl (sc x))))), ((u 2), .inl (cI, 64, .inl r1)), ((u 3), .inl (cI, 64, .inl r2)), ((u 4), .inl (cF, 64, .inr (.inr (.inl r3)))), ((u 5), .inl (cI, 512, .inl f1)), ((u 6), .inl (cI, 512, .inl f2)), ((u 7), .inl (cI, 512, .inl f3)), ((u 8), .inl (cF, 512, .inr (.inr (.inl f4)))), ((u 9), .inl (cI, 16, .inl k1)), ((u 10), .inl (cF, 4096, .inr (.inr (.inl kc))))]) H := hP
          have hD : va_D A ([((u 0), .inr (4, [.int (nI 0), .int (nI n), .ref (u 1), .int (nI (sT x)), .int (nI ev), .int (sd x), .int (nI R.length), .ref (u 2), .ref (u 3), .ref (u 4), .int (nI ((sL x).length)), .ref (u 5), .ref (u 6), .ref (u 7), .ref (u 8), .int (nI ((sS x).length)), .ref (u 9), .ref (u 10)])), ((u 1), .inl (cF, 256, .inr (.inr (.inl (sc x))))), ((u 2), .inl (cI, 64, .inl r1)), ((u 3), .inl (cI, 64, .inl r2)), ((u 4), .inl (cF, 64, .inr (.inr (.inl r3)))), ((u 5), .inl (cI, 512, .inl f1)), ((u 6), .inl (cI, 512, .inl f2)), ((u 7), .inl (cI, 512, .inl f3)), ((u 8), .inl (cF, 512, .inr (.inr (.inl f4)))), ((u 9), .inl (cI, 16, .inl k1)), ((u 10), .inl (cF, 4096, .inr (.inr (.inl kc))))]) := hD
          obtain ⟨⟨hz9, hlast⟩, ⟨hc9, hq9⟩, hlt⟩ := cdR_0 hk8 rfl
          have hl9 := hlast hc9
          obtain ⟨m9, hm8, rfl, hm⟩ := iz_nat (z := c9) (by omega)
          obtain ⟨q0, hq8, rfl, hq⟩ := iz_nat hq9.1.1
          rw [hm] at hl9 hc9 hlt
          have hl : lv_has ls 11 [(7, .int b7), (6, .int b6), (0, .ref (u 0)), (1, .int z), (2, .int b), (3, .int (nI m9)), (4, .int (nI q0)), (5, .float v)] := hl
          refine lv_iconst (v := nI 0) hx hb dX4_inputs_144 (by decide) ?_
          refine lv_istore (lv' := [(8, .int (nI 0)), (7, .int b7), (6, .int b6), (0, .ref (u 0)), (1, .int z), (2, .int b), (3, .int (nI m9)), (4, .int (nI q0)), (5, .float v)]) hx hb dX4_inputs_145 hl (by decide) rfl (fun ls hl => ?_)
          have hcell : ∀ i, i < m9 → 0 ≤ z.toInt + (i : Int) * b.toInt ∧ z.toInt + (i : Int) * b.toInt < (n : Int) := fun i hi => ev_in hz9 hl9 hi
          have loop : ∀ (r i : Nat), r + i = m9 → ∀ w : va_W, WM cI cF u n ev (nI 0) R (stL x (insN app (inN (sT x) z b (nI q0) v) i (sL x))) w → rIn n (insN app (inN (sT x) z b (nI q0) v) i (sL x)) → (insN app (inN (sT x) z b (nI q0) v) i (sL x)).length = i + (sL x).length → ∀ (H : Heap) (locs : List Loc) (ls : Array Slot), va_P D vwCl w H → va_D A w → va_S A s.heap H locs → lv_has ls 11 [(8, .int (nI i)), (7, .int b7), (6, .int b6), (0, .ref (u 0)), (1, .int z), (2, .int b), (3, .int (nI m9)), (4, .int (nI q0)), (5, .float v)] → W p l e (rmk 3 0 0) s m [.ref (u 0), .int z, .int b, .int (nI m9), .int (nI q0), .float v].toArray below meth c H locs 0 0 (MQ below (va_Qi (fun (r : Int32) (w1 : va_W) => ∃ k, cdR (kn n z ∧ ((1 ≤ (nI m9).toInt ∧ (nI m9).toInt ≤ 256) → (0 ≤ z.toInt + ((nI m9).toInt - 1) * b.toInt ∧ z.toInt + ((nI m9).toInt - 1) * b.toInt < (n : Int)))) ((1 ≤ (nI m9).toInt ∧ (nI m9).toInt ≤ 256) ∧ okW (nI q0) v) ((nI m9).toInt + ((sL x).length : Int) ≤ 512) k ∧ (k = 0 → r = (nI (cq (insN app (inN (sT x) z b (nI q0) v) (tn (nI m9)) (sL x)) (sT x : Int))) ∧ WM cI cF u n ev (nI k) R (stL x (insN app (inN (sT x) z b (nI q0) v) (tn (nI m9)) (sL x))) w1) ∧ (k ≠ 0 → WM cI cF u n ev (nI k) R x w1)) (fun w1 t => va_P D vwCl w1 t.heap) A) [.ref (u 0), .int z, .int b, .int (nI m9), .int (nI q0), .float v].toArray s 0 0 A) (F0 m 147 ls []) := by
            intro r
            induction r with
            | zero =>
              intro i h1 w hw hI hlen H locs ls hP hD hS hl
              have hl : lv_has ls 11 [(8, .int (nI i)), (7, .int b7), (6, .int b6), (0, .ref (u 0)), (1, .int z), (2, .int b), (3, .int (nI m9)), (4, .int (nI q0)), (5, .float v)] := hl
              obtain ⟨r4, r5, r6, g1, g2, g3, g4, m1, m2, hdr2, hrec2, hks2, rfl⟩ := id hw
              have hP : va_P D vwCl ([((u 0), .inr (4, [.int (nI 0), .int (nI n), .ref (u 1), .int (nI (sT x)), .int (nI ev), .int (sd x), .int (nI R.length), .ref (u 2), .ref (u 3), .ref (u 4), .int (nI ((insN app (inN (sT x) z b (nI q0) v) i (sL x)).length)), .ref (u 5), .ref (u 6), .ref (u 7), .ref (u 8), .int (nI ((sS x).length)), .ref (u 9), .ref (u 10)])), ((u 1), .inl (cF, 256, .inr (.inr (.inl (sc x))))), ((u 2), .inl (cI, 64, .inl r4)), ((u 3), .inl (cI, 64, .inl r5)), ((u 4), .inl (cF, 64, .inr (.inr (.inl r6)))), ((u 5), .inl (cI, 512, .inl g1)), ((u 6), .inl (cI, 512, .inl g2)), ((u 7), .inl (cI, 512, .inl g3)), ((u 8), .inl (cF, 512, .inr (.inr (.inl g4)))), ((u 9), .inl (cI, 16, .inl m1)), ((u 10), .inl (cF, 4096, .inr (.inr (.inl m2))))]) H := hP
              have hD : va_D A ([((u 0), .inr (4, [.int (nI 0), .int (nI n), .ref (u 1), .int (nI (sT x)), .int (nI ev), .int (sd x), .int (nI R.length), .ref (u 2), .ref (u 3), .ref (u 4), .int (nI ((insN app (inN (sT x) z b (nI q0) v) i (sL x)).length)), .ref (u 5), .ref (u 6), .ref (u 7), .ref (u 8), .int (nI ((sS x).length)), .ref (u 9), .ref (u 10)])), ((u 1), .inl (cF, 256, .inr (.inr (.inl (sc x))))), ((u 2), .inl (cI, 64, .inl r4)), ((u 3), .inl (cI, 64, .inl r5)), ((u 4), .inl (cF, 64, .inr (.inr (.inl r6)))), ((u 5), .inl (cI, 512, .inl g1)), ((u 6), .inl (cI, 512, .inl g2)), ((u 7), .inl (cI, 512, .inl g3)), ((u 8), .inl (cF, 512, .inr (.inr (.inl g4)))), ((u 9), .inl (cI, 16, .inl m1)), ((u 10), .inl (cF, 4096, .inr (.inr (.inl m2))))]) := hD
              refine lv_iload hx hb dX4_inputs_147 (lv_at hl 0 rfl) ?_
              refine lv_iload_n hx hb dX4_inputs_149 rfl (lv_at hl 6 rfl) ?_
              refine lv_icmp_ge (tgt := 177) hx hb dX4_inputs_150 (by decide) (fun c_3 => ?_) (fun c_3 => absurd (nI_le (by omega) (by omega)) c_3)
              have hi2 : i = m9 := by omega
              refine lv_aload_n hx hb dX4_inputs_177 rfl (lv_at hl 3 rfl) ?_
              refine lv_aload_n hx hb dX4_inputs_178 rfl (lv_at hl 3 rfl) ?_
              refine va_get (D := D) (ci := 4) (v := .int (nI (sT x))) (C := RX4) (T := TX4) (N := 18) hx hb hts hiX4 hown hK hP 0 rfl rfl 3 (by decide) (hts (.fieldLink RX4 62 "StateKeeperModel" "now" "I") (List.mem_of_getElem? (i := 3) rfl)) (fun _ h9 => h9) rfl dX4_inputs_179 ?_
              refine vp_callSi (lz_runV (C := RX4) (As := [.int (nI (sT x))]) (rest := []) hC hS hl (c_X4_inputsOf (x := stL x (insN app (inN (sT x) z b (nI q0) v) i (sL x))) hI hw) (cwV 1 hts gX4_inputs_X4_inputsOf rfl rfl rfl (by decide +kernel) ⟨Nat.le_of_ble_eq_true rfl, Nat.le_of_ble_eq_true rfl⟩) hP hD (va_recv hK hP (ci := 4) (q0 := 0) rfl rfl) rfl rfl (Nat.le_of_ble_eq_true rfl) dX4_inputs_182 ⟨Nat.le_of_ble_eq_true rfl, Nat.le_of_ble_eq_true rfl⟩).run (fun r_4 er_4 => ?_)
              subst er_4
              refine lz_i (y := nI (cq (insN app (inN (sT x) z b (nI q0) v) i (sL x)) (sT x : Int))) (by rw [nI_toInt (by omega)]) ?_
              exact W.iret hx hb hr (fun t9 ht9 _ => ⟨⟨_, [((u 0), .inr (4, [.int (nI 0), .int (nI n), .ref (u 1), .int (nI (sT x)), .int (nI ev), .int (sd x), .int (nI R.length), .ref (u 2), .ref (u 3), .ref (u 4), .int (nI ((insN app (inN (sT x) z b (nI q0) v) i (sL x)).length)), .ref (u 5), .ref (u 6), .ref (u 7), .ref (u 8), .int (nI ((sS x).length)), .ref (u 9), .ref (u 10)])), ((u 1), .inl (cF, 256, .inr (.inr (.inl (sc x))))), ((u 2), .inl (cI, 64, .inl r4)), ((u 3), .inl (cI, 64, .inl r5)), ((u 4), .inl (cF, 64, .inr (.inr (.inl r6)))), ((u 5), .inl (cI, 512, .inl g1)), ((u 6), .inl (cI, 512, .inl g2)), ((u 7), .inl (cI, 512, .inl g3)), ((u 8), .inl (cF, 512, .inr (.inr (.inl g4)))), ((u 9), .inl (cI, 16, .inl m1)), ((u 10), .inl (cF, 4096, .inr (.inr (.inl m2))))], rfl, ⟨0, hk8, fun _ => by rw [tn_nI hm8, ← hi2]; exact ⟨rfl, hw⟩, fun q => absurd rfl q⟩, by show va_P D vwCl _ t9.heap; rw [ht9]; exact hP⟩, hS.F ht9⟩) hS.2.2 dX4_inputs_185
            | succ r ih =>
              intro i h1 w hw hI hlen H locs ls hP hD hS hl
              have hl : lv_has ls 11 [(8, .int (nI i)), (7, .int b7), (6, .int b6), (0, .ref (u 0)), (1, .int z), (2, .int b), (3, .int (nI m9)), (4, .int (nI q0)), (5, .float v)] := hl
              obtain ⟨r4, r5, r6, g1, g2, g3, g4, m1, m2, hdr2, hrec2, hks2, rfl⟩ := id hw
              have hP : va_P D vwCl ([((u 0), .inr (4, [.int (nI 0), .int (nI n), .ref (u 1), .int (nI (sT x)), .int (nI ev), .int (sd x), .int (nI R.length), .ref (u 2), .ref (u 3), .ref (u 4), .int (nI ((insN app (inN (sT x) z b (nI q0) v) i (sL x)).length)), .ref (u 5), .ref (u 6), .ref (u 7), .ref (u 8), .int (nI ((sS x).length)), .ref (u 9), .ref (u 10)])), ((u 1), .inl (cF, 256, .inr (.inr (.inl (sc x))))), ((u 2), .inl (cI, 64, .inl r4)), ((u 3), .inl (cI, 64, .inl r5)), ((u 4), .inl (cF, 64, .inr (.inr (.inl r6)))), ((u 5), .inl (cI, 512, .inl g1)), ((u 6), .inl (cI, 512, .inl g2)), ((u 7), .inl (cI, 512, .inl g3)), ((u 8), .inl (cF, 512, .inr (.inr (.inl g4)))), ((u 9), .inl (cI, 16, .inl m1)), ((u 10), .inl (cF, 4096, .inr (.inr (.inl m2))))]) H := hP
              have hD : va_D A ([((u 0), .inr (4, [.int (nI 0), .int (nI n), .ref (u 1), .int (nI (sT x)), .int (nI ev), .int (sd x), .int (nI R.length), .ref (u 2), .ref (u 3), .ref (u 4), .int (nI ((insN app (inN (sT x) z b (nI q0) v) i (sL x)).length)), .ref (u 5), .ref (u 6), .ref (u 7), .ref (u 8), .int (nI ((sS x).length)), .ref (u 9), .ref (u 10)])), ((u 1), .inl (cF, 256, .inr (.inr (.inl (sc x))))), ((u 2), .inl (cI, 64, .inl r4)), ((u 3), .inl (cI, 64, .inl r5)), ((u 4), .inl (cF, 64, .inr (.inr (.inl r6)))), ((u 5), .inl (cI, 512, .inl g1)), ((u 6), .inl (cI, 512, .inl g2)), ((u 7), .inl (cI, 512, .inl g3)), ((u 8), .inl (cF, 512, .inr (.inr (.inl g4)))), ((u 9), .inl (cI, 16, .inl m1)), ((u 10), .inl (cF, 4096, .inr (.inr (.inl m2))))]) := hD
              have hc8 := hcell i (by omega)
              refine lv_iload hx hb dX4_inputs_147 (lv_at hl 0 rfl) ?_
              refine lv_iload_n hx hb dX4_inputs_149 rfl (lv_at hl 6 rfl) ?_
              refine lv_icmp_ge (tgt := 177) hx hb dX4_inputs_150 (by decide) (fun c1 => absurd c1 (nI_ge (by omega) (by omega))) (fun c1 => ?_)
              refine lv_aload_n hx hb dX4_inputs_153 rfl (lv_at hl 3 rfl) ?_
              refine lv_aload_n hx hb dX4_inputs_154 rfl (lv_at hl 3 rfl) ?_
              refine va_get (D := D) (ci := 4) (v := .int (nI (sT x))) (C := RX4) (T := TX4) (N := 18) hx hb hts hiX4 hown hK hP 0 rfl rfl 3 (by decide) (hts (.fieldLink RX4 62 "StateKeeperModel" "now" "I") (List.mem_of_getElem? (i := 3) rfl)) (fun _ h9 => h9) rfl dX4_inputs_155 ?_
              refine lv_iload_n hx hb dX4_inputs_158 rfl (lv_at hl 4 rfl) ?_
              refine lv_iload_n hx hb dX4_inputs_159 rfl (lv_at hl 5 rfl) ?_
              refine lv_iload hx hb dX4_inputs_160 (lv_at hl 0 rfl) ?_
              refine lv_imul hx hb dX4_inputs_162 ?_
              refine lv_iadd hx hb dX4_inputs_163 ?_
              refine lz_i (y := nI (z.toInt + (i : Int) * b.toInt).toNat) (ev_cell2 hc8 (by omega) (by omega)) ?_
              refine lv_iload hx hb dX4_inputs_164 (lv_at hl 7 rfl) ?_
              refine lv_fload hx hb dX4_inputs_166 (lv_at hl 8 rfl) ?_
              refine lz_cMv0 (lz_runV (C := RX4) (As := [.int (nI (sT x)), .int (nI (z.toInt + (i : Int) * b.toInt).toNat), .int (nI q0), .float v]) (rest := []) hC hS hl (c_X4_put (x := stL x (insN app (inN (sT x) z b (nI q0) v) i (sL x))) (t := sT x) (a := (z.toInt + (i : Int) * b.toInt).toNat) (q := q0) (v := v) (by show (insN app (inN (sT x) z b (nI q0) v) i (sL x)).length < 512; omega) hw) (cwV 4 hts gX4_inputs_X4_put rfl rfl rfl (by decide +kernel) ⟨Nat.le_of_ble_eq_true rfl, Nat.le_of_ble_eq_true rfl⟩) hP hD (va_recv hK hP (ci := 4) (q0 := 0) rfl rfl) rfl rfl (Nat.le_of_ble_eq_true rfl) dX4_inputs_168 ⟨Nat.le_of_ble_eq_true rfl, Nat.le_of_ble_eq_true rfl⟩) hD hS hA (fun w1 h => h.ad2 hw) (fun w1 H locs hpo hP hD hS => ?_)
              have hw8 := hpo
              have e9 : insN app (inN (sT x) z b (nI q0) v) (i + 1) (sL x) = (insN app (inN (sT x) z b (nI q0) v) i (sL x)) ++ [(sT x, (z.toInt + (i : Int) * b.toInt).toNat, q0, v)] := by show app _ (_, _, tn (nI q0), _) = _; rw [tn_nI hq8]
              refine lv_iinc (v := nI (i + 1)) (lv' := [(8, .int (nI (i + 1))), (7, .int b7), (6, .int b6), (0, .ref (u 0)), (1, .int z), (2, .int b), (3, .int (nI m9)), (4, .int (nI q0)), (5, .float v)]) hx hb dX4_inputs_171 hl (k := 0) rfl (nI_add _ 1) (by decide) rfl (fun ls hl => ?_)
              refine lv_goto (tgt := 147) hx hb dX4_inputs_174 (by decide) ?_
              exact ih (i + 1) (by omega) w1 (by rw [e9]; exact hw8) (by rw [e9]; exact rIn_app hI (by omega) ⟨by show sT x < 2 ^ 30; omega, by show (z.toInt + (i : Int) * b.toInt).toNat < n; omega, by show q0 ≤ 2; omega, inF_F cN_F cP_F hq9.2⟩) (by rw [e9, List.length_append, hlen]; show i + (sL x).length + 1 = i + 1 + (sL x).length; omega) H locs ls hP hD hS (lv_sub hl [0, 1, 2, 3, 4, 5, 6, 7, 8] rfl)
          exact loop m9 0 (by omega) _ hw9 hL9 (by show (sL x).length = _; omega) H locs ls hP hD hS (lv_sub hl [0, 1, 2, 3, 4, 5, 6, 7, 8] rfl)
        · have hk0 : ¬ k9 = 0 := bz_0 hb9 c_2
          refine lv_iconst (v := nI 0) hx hb dX4_inputs_142 (by decide) ?_
          exact W.iret hx hb hr (fun t9 ht9 _ => ⟨⟨_, w1, rfl, ⟨k9, hk8, fun q => absurd q hk0, fun _ => hw9⟩, by show va_P D vwCl _ t9.heap; rw [ht9]; exact hP⟩, hS.F ht9⟩) hS.2.2 dX4_inputs_143
      have j2 : ∀ b1 b2 : Int32, bz (kn n z ∧ ((1 ≤ c9.toInt ∧ c9.toInt ≤ 256) → (0 ≤ z.toInt + (c9.toInt - 1) * b.toInt ∧ z.toInt + (c9.toInt - 1) * b.toInt < (n : Int)))) b1 → bz ((1 ≤ c9.toInt ∧ c9.toInt ≤ 256) ∧ okW q v) b2 → W p l e (rmk 3 0 0) s m [.ref (u 0), .int z, .int b, .int c9, .int q, .float v].toArray below meth c s.heap [] 0 0 (MQ below (va_Qi (fun (r : Int32) (w1 : va_W) => ∃ k, cdR (kn n z ∧ ((1 ≤ c9.toInt ∧ c9.toInt ≤ 256) → (0 ≤ z.toInt + (c9.toInt - 1) * b.toInt ∧ z.toInt + (c9.toInt - 1) * b.toInt < (n : Int)))) ((1 ≤ c9.toInt ∧ c9.toInt ≤ 256) ∧ okW q v) (c9.toInt + ((sL x).length : Int) ≤ 512) k ∧ (k = 0 → r = (nI (cq (insN app (inN (sT x) z b q v) (tn c9) (sL x)) (sT x : Int))) ∧ WM cI cF u n ev (nI k) R (stL x (insN app (inN (sT x) z b q v) (tn c9) (sL x))) w1) ∧ (k ≠ 0 → WM cI cF u n ev (nI k) R x w1)) (fun w1 t => va_P D vwCl w1 t.heap) A) [.ref (u 0), .int z, .int b, .int c9, .int q, .float v].toArray s 0 0 A) (F0 m 119 ls [.int b2, .int b1, .ref (u 0)]) := by
        intro b1 b2 h1 h2
        refine lv_aload_n hx hb dX4_inputs_119 rfl (lv_at hl 2 rfl) ?_
        refine va_get (D := D) (ci := 4) (v := .int (nI ((sL x).length))) (C := RX4) (T := TX4) (N := 18) hx hb hts hiX4 hown hK hP 0 rfl rfl 10 (by decide) (hts (.fieldLink RX4 65 "StateKeeperModel" "inputs" "I") (List.mem_of_getElem? (i := 2) rfl)) (fun _ h9 => h9) rfl dX4_inputs_120 ?_
        refine lv_iload_n hx hb dX4_inputs_123 rfl (lv_at hl 5 rfl) ?_
        refine lv_iadd hx hb dX4_inputs_124 ?_
        refine lv_sipush (v := nI 512) hx hb dX4_inputs_125 (by decide) ?_
        refine lv_icmp_gt (tgt := 135) hx hb dX4_inputs_128 (by decide) (fun c_5 => ?_) (fun c_5 => ?_)
        · refine lv_iconst (v := nI 0) hx hb dX4_inputs_135 (by decide) ?_
          exact j3 b1 b2 _ h1 h2 (Or.inr ⟨fun q9 => absurd ((iz_lt_l (a := 512) (by omega)).mp c_5) (by omega), rfl⟩)
        · have e1 : ((nI (sL x).length + c9).toInt ≤ 512) := by have := mt (iz_lt_l (a := 512) (by omega)).mpr c_5; omega
          refine lv_iconst (v := nI 1) hx hb dX4_inputs_131 (by decide) ?_
          refine lv_goto (tgt := 136) hx hb dX4_inputs_132 (by decide) ?_
          exact j3 b1 b2 _ h1 h2 (Or.inl ⟨e1, rfl⟩)
      refine lv_aload_n hx hb dX4_inputs_87 rfl (lv_at hl 2 rfl) ?_
      refine lv_iload hx hb dX4_inputs_88 (lv_at hl 0 rfl) ?_
      refine lv_iload hx hb dX4_inputs_90 (lv_at hl 1 rfl) ?_
      refine lv_if_eq (tgt := 118) hx hb dX4_inputs_92 (by decide) (fun c_6 => ?_) (fun c_6 => ?_)
      · refine lv_iconst (v := nI 0) hx hb dX4_inputs_118 (by decide) ?_
        exact j2 b7 _ h7 (Or.inr ⟨fun q9 => bz_0 h6 c_6 q9.1, rfl⟩)
      · refine lv_iload hx hb dX4_inputs_95 (lv_at hl 6 rfl) ?_
        refine lv_if_lt (tgt := 118) hx hb dX4_inputs_97 (by decide) (fun c_7 => ?_) (fun c_7 => ?_)
        · refine lv_iconst (v := nI 0) hx hb dX4_inputs_118 (by decide) ?_
          exact j2 b7 _ h7 (Or.inr ⟨fun q9 => absurd (iz_lt0.mp c_7) (by omega), rfl⟩)
        · have e1 : 0 ≤ q.toInt := by have := mt iz_lt0.mpr c_7; omega
          refine lv_iload hx hb dX4_inputs_100 (lv_at hl 6 rfl) ?_
          refine lv_iconst (v := nI 2) hx hb dX4_inputs_102 (by decide) ?_
          refine lv_icmp_gt (tgt := 118) hx hb dX4_inputs_103 (by decide) (fun c_8 => ?_) (fun c_8 => ?_)
          · refine lv_iconst (v := nI 0) hx hb dX4_inputs_118 (by decide) ?_
            exact j2 b7 _ h7 (Or.inr ⟨fun q9 => absurd ((iz_lt_l (a := 2) (by omega)).mp c_8) (by omega), rfl⟩)
          · have e2 : q.toInt ≤ 2 := by have := mt (iz_lt_l (a := 2) (by omega)).mpr c_8; omega
            refine lv_fload hx hb dX4_inputs_106 (lv_at hl 7 rfl) ?_
            refine vp_callSi (lz_runS (As := [.float v]) (rest := [.int b7, .ref (u 0)]) hC hS hl (c_X4_within (w := (mW cI cF u n ev th (sT x) (sd x) (sc x) R.length r1 r2 r3 (sL x).length f1 f2 f3 f4 (sS x).length k1 kc))) (va_cwS 1 hts gX4_inputs_X4_within rfl rfl rfl (by decide +kernel) ⟨Nat.le_of_ble_eq_true rfl, Nat.le_of_ble_eq_true rfl⟩) hP hD rfl rfl (Nat.le_of_ble_eq_true rfl) dX4_inputs_108 ⟨Nat.le_of_ble_eq_true rfl, Nat.le_of_ble_eq_true rfl⟩).run (fun x3 hx3 => ?_)
            refine lv_if_eq (tgt := 118) hx hb dX4_inputs_111 (by decide) (fun c_9 => ?_) (fun c_9 => ?_)
            · refine lv_iconst (v := nI 0) hx hb dX4_inputs_118 (by decide) ?_
              exact j2 b7 _ h7 (Or.inr ⟨fun q9 => bz_0 hx3 c_9 q9.2.2, rfl⟩)
            · have e3 := bz_1 hx3 c_9
              refine lv_iconst (v := nI 1) hx hb dX4_inputs_114 (by decide) ?_
              refine lv_goto (tgt := 119) hx hb dX4_inputs_115 (by decide) ?_
              exact j2 b7 _ h7 (Or.inl ⟨⟨bz_1 h6 c_6, ⟨e1, e2⟩, e3⟩, rfl⟩)
    refine lv_aload_n hx hb dX4_inputs_19 rfl (lv_at hl 1 rfl) ?_
    refine lv_iload_n hx hb dX4_inputs_20 rfl (lv_at hl 2 rfl) ?_
    refine vp_callSi (lz_runV (C := RX4) (As := [.int z]) (rest := []) hC hS hl (c_X4_known hw hn9) (cwV 1 hts gX4_inputs_X4_known rfl rfl rfl (by decide +kernel) ⟨Nat.le_of_ble_eq_true rfl, Nat.le_of_ble_eq_true rfl⟩) hP hD (va_recv hK hP (ci := 4) (q0 := 0) rfl rfl) rfl rfl (Nat.le_of_ble_eq_true rfl) dX4_inputs_21 ⟨Nat.le_of_ble_eq_true rfl, Nat.le_of_ble_eq_true rfl⟩).run (fun x1 hx1 => ?_)
    refine lv_istore (lv' := [(7, .int x1), (6, .int b6), (0, .ref (u 0)), (1, .int z), (2, .int b), (3, .int c9), (4, .int q), (5, .float v)]) hx hb dX4_inputs_24 hl (by decide) rfl (fun ls hl => ?_)
    refine lv_iconst (v := nI 1) hx hb dX4_inputs_26 (by decide) ?_
    refine lv_istore (lv' := [(8, .int (nI 1)), (7, .int x1), (6, .int b6), (0, .ref (u 0)), (1, .int z), (2, .int b), (3, .int c9), (4, .int q), (5, .float v)]) hx hb dX4_inputs_27 hl (by decide) rfl (fun ls hl => ?_)
    by_cases hcc : (1 ≤ c9.toInt ∧ c9.toInt ≤ 256)
    · obtain ⟨m9, hm8, rfl, hm⟩ := iz_nat (z := c9) (by omega)
      have h60 : ¬ b6 = 0 := fun q9 => bz_0 h6 q9 hcc
      have hcm := hcc
      rw [hm] at hcm
      have hl : lv_has ls 11 [(8, .int (nI 1)), (7, .int x1), (6, .int b6), (0, .ref (u 0)), (1, .int z), (2, .int b), (3, .int (nI m9)), (4, .int q), (5, .float v)] := hl
      have hP1 : ∀ i : Nat, 1 ≤ i → i ≤ m9 → (kn n z ∧ ((1 ≤ (nI m9).toInt ∧ (nI m9).toInt ≤ 256) → (0 ≤ z.toInt + ((nI m9).toInt - 1) * b.toInt ∧ z.toInt + ((nI m9).toInt - 1) * b.toInt < (n : Int)))) → (∀ j : Nat, 1 ≤ j → j < i → (0 ≤ z.toInt + (j : Int) * b.toInt ∧ z.toInt + (j : Int) * b.toInt < (n : Int))) := fun i _ hi h9 j _ hj => ev_in h9.1 (by have := h9.2 hcc; rw [hm] at this; exact this) (by omega)
      have loop : ∀ (r i : Nat), r + i = m9 → 1 ≤ i → ∀ b7 : Int32, bz (kn n z ∧ ∀ j : Nat, 1 ≤ j → j < i → (0 ≤ z.toInt + (j : Int) * b.toInt ∧ z.toInt + (j : Int) * b.toInt < (n : Int))) b7 → ∀ ls : Array Slot, lv_has ls 11 [(8, .int (nI i)), (7, .int b7), (6, .int b6), (0, .ref (u 0)), (1, .int z), (2, .int b), (3, .int (nI m9)), (4, .int q), (5, .float v)] → W p l e (rmk 3 0 0) s m [.ref (u 0), .int z, .int b, .int (nI m9), .int q, .float v].toArray below meth c s.heap [] 0 0 (MQ below (va_Qi (fun (r : Int32) (w1 : va_W) => ∃ k, cdR (kn n z ∧ ((1 ≤ (nI m9).toInt ∧ (nI m9).toInt ≤ 256) → (0 ≤ z.toInt + ((nI m9).toInt - 1) * b.toInt ∧ z.toInt + ((nI m9).toInt - 1) * b.toInt < (n : Int)))) ((1 ≤ (nI m9).toInt ∧ (nI m9).toInt ≤ 256) ∧ okW q v) ((nI m9).toInt + ((sL x).length : Int) ≤ 512) k ∧ (k = 0 → r = (nI (cq (insN app (inN (sT x) z b q v) (tn (nI m9)) (sL x)) (sT x : Int))) ∧ WM cI cF u n ev (nI k) R (stL x (insN app (inN (sT x) z b q v) (tn (nI m9)) (sL x))) w1) ∧ (k ≠ 0 → WM cI cF u n ev (nI k) R x w1)) (fun w1 t => va_P D vwCl w1 t.heap) A) [.ref (u 0), .int z, .int b, .int (nI m9), .int q, .float v].toArray s 0 0 A) (F0 m 29 ls []) := by
        intro r
        induction r with
        | zero =>
          intro i h1 h2 b7 h7 ls hl
          have hl : lv_has ls 11 [(8, .int (nI i)), (7, .int b7), (6, .int b6), (0, .ref (u 0)), (1, .int z), (2, .int b), (3, .int (nI m9)), (4, .int q), (5, .float v)] := hl
          refine lv_iload hx hb dX4_inputs_29 (lv_at hl 0 rfl) ?_
          refine lv_iload_n hx hb dX4_inputs_31 rfl (lv_at hl 6 rfl) ?_
          refine lv_icmp_ge (tgt := 87) hx hb dX4_inputs_32 (by decide) (fun c_10 => ?_) (fun c_10 => absurd (nI_le (by omega) (by omega)) c_10)
          exact aft b7 (bz_iff ⟨fun h9 => ⟨h9.1, fun _ => by
            rw [hm]
            by_cases q9 : i = 1
            · have e9 : (m9 : Int) - 1 = 0 := by omega
              rw [e9]
              have := h9.1
              omega
            · have := h9.2 (i - 1) (by omega) (by omega)
              rw [show ((i - 1 : Nat) : Int) = (m9 : Int) - 1 by omega] at this
              exact this⟩, fun h9 => ⟨h9.1, hP1 i h2 (by omega) h9⟩⟩ h7) ls (lv_sub hl [1, 2, 3, 4, 5, 6, 7, 8] rfl)
        | succ r ih =>
          intro i h1 h2 b7 h7 ls hl
          have hl : lv_has ls 11 [(8, .int (nI i)), (7, .int b7), (6, .int b6), (0, .ref (u 0)), (1, .int z), (2, .int b), (3, .int (nI m9)), (4, .int q), (5, .float v)] := hl
          refine lv_iload hx hb dX4_inputs_29 (lv_at hl 0 rfl) ?_
          refine lv_iload_n hx hb dX4_inputs_31 rfl (lv_at hl 6 rfl) ?_
          refine lv_icmp_ge (tgt := 87) hx hb dX4_inputs_32 (by decide) (fun c1 => absurd c1 (nI_ge (by omega) (by omega))) (fun c1 => ?_)
          refine lv_iload hx hb dX4_inputs_35 (lv_at hl 2 rfl) ?_
          refine lv_if_eq (tgt := 87) hx hb dX4_inputs_37 (by decide) (fun c_11 => absurd c_11 h60) (fun c_11 => ?_)
          refine lv_iload hx hb dX4_inputs_40 (lv_at hl 1 rfl) ?_
          refine lv_if_eq (tgt := 87) hx hb dX4_inputs_42 (by decide) (fun c_12 => ?_) (fun c_12 => ?_)
          · exact aft b7 (Or.inr ⟨fun h9 => bz_0 h7 c_12 ⟨h9.1, hP1 i h2 (by omega) h9⟩, (h7.elim (fun q9 => absurd (c_12.symm.trans q9.2) (by decide)) (fun q9 => q9.2))⟩) ls (lv_sub hl [1, 2, 3, 4, 5, 6, 7, 8] rfl)
          · have hal := bz_1 h7 c_12
            have hlong : (z.toInt64 + b.toInt64 * (nI i).toInt64).toInt = z.toInt + (i : Int) * b.toInt := il_at (by omega)
            refine lv_iload_n hx hb dX4_inputs_45 rfl (lv_at hl 4 rfl) ?_
            refine lv_i2l (v := z.toInt64) hx hb dX4_inputs_46 rfl ?_
            refine lv_iload_n hx hb dX4_inputs_47 rfl (lv_at hl 5 rfl) ?_
            refine lv_i2l (v := b.toInt64) hx hb dX4_inputs_48 rfl ?_
            refine lv_iload hx hb dX4_inputs_49 (lv_at hl 0 rfl) ?_
            refine lv_i2l (v := (nI i).toInt64) hx hb dX4_inputs_51 rfl ?_
            refine lv_lmul hx hb dX4_inputs_52 ?_
            refine lv_ladd hx hb dX4_inputs_53 ?_
            refine lv_lstore (lv' := [(9, .long (z.toInt64 + (b.toInt64 * ((nI i).toInt64)))), (8, .int (nI i)), (7, .int b7), (6, .int b6), (0, .ref (u 0)), (1, .int z), (2, .int b), (3, .int (nI m9)), (4, .int q), (5, .float v)]) hx hb dX4_inputs_54 hl (by decide) rfl (fun ls hl => ?_)
            refine lv_lload hx hb dX4_inputs_56 (lv_at hl 0 rfl) ?_
            refine lv_lconst (v := lN 0) hx hb dX4_inputs_58 (by decide) ?_
            refine W.lcmp hx hb dX4_inputs_59 ?_
            refine lv_if_lt (tgt := 78) hx hb dX4_inputs_60 (by decide) (fun c_13 => ?_) (fun c_13 => ?_)
            · have e1 := (il_lt _ _).mp c_13
              rw [hlong, il_0] at e1
              refine lv_iconst (v := nI 0) hx hb dX4_inputs_78 (by decide) ?_
              refine lv_istore (lv' := [(7, .int (nI 0)), (9, .long (z.toInt64 + (b.toInt64 * ((nI i).toInt64)))), (8, .int (nI i)), (6, .int b6), (0, .ref (u 0)), (1, .int z), (2, .int b), (3, .int (nI m9)), (4, .int q), (5, .float v)]) hx hb dX4_inputs_79 hl (by decide) rfl (fun ls hl => ?_)
              refine lv_iinc (v := nI (i + 1)) (lv' := [(8, .int (nI (i + 1))), (7, .int (nI 0)), (9, .long (z.toInt64 + (b.toInt64 * ((nI i).toInt64)))), (6, .int b6), (0, .ref (u 0)), (1, .int z), (2, .int b), (3, .int (nI m9)), (4, .int q), (5, .float v)]) hx hb dX4_inputs_81 hl (k := 2) rfl (nI_add _ 1) (by decide) rfl (fun ls hl => ?_)
              refine lv_goto (tgt := 29) hx hb dX4_inputs_84 (by decide) ?_
              exact ih (i + 1) (by omega) (by omega) _ (Or.inr ⟨fun h9 => absurd (h9.2 i h2 (by omega)).1 (by omega), rfl⟩) ls (lv_sub hl [0, 1, 3, 4, 5, 6, 7, 8, 9] rfl)
            · have e1 : 0 ≤ z.toInt + (i : Int) * b.toInt := by have := mt (il_lt _ _).mpr c_13; rw [hlong, il_0] at this; omega
              refine lv_lload hx hb dX4_inputs_63 (lv_at hl 0 rfl) ?_
              refine lv_aload_n hx hb dX4_inputs_65 rfl (lv_at hl 4 rfl) ?_
              refine va_get (D := D) (ci := 4) (v := .int (nI n)) (C := RX4) (T := TX4) (N := 18) hx hb hts hiX4 hown hK hP 0 rfl rfl 1 (by decide) (hts (.fieldLink RX4 41 "StateKeeperModel" "n" "I") (List.mem_of_getElem? (i := 1) rfl)) (fun _ h9 => h9) rfl dX4_inputs_66 ?_
              refine lv_i2l (v := (nI n).toInt64) hx hb dX4_inputs_69 rfl ?_
              refine W.lcmp hx hb dX4_inputs_70 ?_
              refine lv_if_ge (tgt := 78) hx hb dX4_inputs_71 (by decide) (fun c_14 => ?_) (fun c_14 => ?_)
              · have e2 := (il_ge0 _ _).mp c_14
                rw [hlong, il_toInt, nI_toInt (by omega)] at e2
                refine lv_iconst (v := nI 0) hx hb dX4_inputs_78 (by decide) ?_
                refine lv_istore (lv' := [(7, .int (nI 0)), (9, .long (z.toInt64 + (b.toInt64 * ((nI i).toInt64)))), (8, .int (nI i)), (6, .int b6), (0, .ref (u 0)), (1, .int z), (2, .int b), (3, .int (nI m9)), (4, .int q), (5, .float v)]) hx hb dX4_inputs_79 hl (by decide) rfl (fun ls hl => ?_)
                refine lv_iinc (v := nI (i + 1)) (lv' := [(8, .int (nI (i + 1))), (7, .int (nI 0)), (9, .long (z.toInt64 + (b.toInt64 * ((nI i).toInt64)))), (6, .int b6), (0, .ref (u 0)), (1, .int z), (2, .int b), (3, .int (nI m9)), (4, .int q), (5, .float v)]) hx hb dX4_inputs_81 hl (k := 2) rfl (nI_add _ 1) (by decide) rfl (fun ls hl => ?_)
                refine lv_goto (tgt := 29) hx hb dX4_inputs_84 (by decide) ?_
                exact ih (i + 1) (by omega) (by omega) _ (Or.inr ⟨fun h9 => absurd (h9.2 i h2 (by omega)).2 (by omega), rfl⟩) ls (lv_sub hl [0, 1, 3, 4, 5, 6, 7, 8, 9] rfl)
              · have e2 : z.toInt + (i : Int) * b.toInt < (n : Int) := by have := mt (il_ge0 _ _).mpr c_14; rw [hlong, il_toInt, nI_toInt (by omega)] at this; omega
                refine lv_iconst (v := nI 1) hx hb dX4_inputs_74 (by decide) ?_
                refine lv_goto (tgt := 79) hx hb dX4_inputs_75 (by decide) ?_
                refine lv_istore (lv' := [(7, .int (nI 1)), (9, .long (z.toInt64 + (b.toInt64 * ((nI i).toInt64)))), (8, .int (nI i)), (6, .int b6), (0, .ref (u 0)), (1, .int z), (2, .int b), (3, .int (nI m9)), (4, .int q), (5, .float v)]) hx hb dX4_inputs_79 hl (by decide) rfl (fun ls hl => ?_)
                refine lv_iinc (v := nI (i + 1)) (lv' := [(8, .int (nI (i + 1))), (7, .int (nI 1)), (9, .long (z.toInt64 + (b.toInt64 * ((nI i).toInt64)))), (6, .int b6), (0, .ref (u 0)), (1, .int z), (2, .int b), (3, .int (nI m9)), (4, .int q), (5, .float v)]) hx hb dX4_inputs_81 hl (k := 2) rfl (nI_add _ 1) (by decide) rfl (fun ls hl => ?_)
                refine lv_goto (tgt := 29) hx hb dX4_inputs_84 (by decide) ?_
                exact ih (i + 1) (by omega) (by omega) _ (Or.inl ⟨⟨hal.1, fun j hj1 hj2 => by
                  by_cases q9 : j = i
                  · subst q9; exact ⟨e1, e2⟩
                  · exact hal.2 j hj1 (by omega)⟩, rfl⟩) ls (lv_sub hl [0, 1, 3, 4, 5, 6, 7, 8, 9] rfl)
      exact loop (m9 - 1) 1 (by omega) (Nat.le_refl 1) x1 (bz_iff ⟨fun h9 => ⟨h9, fun j hj1 hj2 => by omega⟩, fun h9 => h9.1⟩ hx1) ls hl
    · have haf : bz (kn n z ∧ ((1 ≤ c9.toInt ∧ c9.toInt ≤ 256) → (0 ≤ z.toInt + (c9.toInt - 1) * b.toInt ∧ z.toInt + (c9.toInt - 1) * b.toInt < (n : Int)))) x1 := bz_iff ⟨fun h9 => ⟨h9, fun q9 => absurd q9 hcc⟩, fun h9 => h9.1⟩ hx1
      refine lv_iload hx hb dX4_inputs_29 (lv_at hl 0 rfl) ?_
      refine lv_iload_n hx hb dX4_inputs_31 rfl (lv_at hl 6 rfl) ?_
      refine lv_icmp_ge (tgt := 87) hx hb dX4_inputs_32 (by decide) (fun c_15 => ?_) (fun c_15 => ?_)
      · exact aft x1 haf ls (lv_sub hl [1, 2, 3, 4, 5, 6, 7, 8] rfl)
      · refine lv_iload hx hb dX4_inputs_35 (lv_at hl 2 rfl) ?_
        refine lv_if_eq (tgt := 87) hx hb dX4_inputs_37 (by decide) (fun c_16 => ?_) (fun c_16 => absurd (h6.elim (fun q9 => absurd q9.1 hcc) (fun q9 => q9.2.trans nI_0)) c_16)
        exact aft x1 haf ls (lv_sub hl [1, 2, 3, 4, 5, 6, 7, 8] rfl)
  refine lv_iload_n hx hb dX4_inputs_0 rfl (lv_at hl 3 rfl) ?_
  refine lv_iconst (v := nI 1) hx hb dX4_inputs_1 (by decide) ?_
  refine lv_icmp_lt (tgt := 16) hx hb dX4_inputs_2 (by decide) (fun c_17 => ?_) (fun c_17 => ?_)
  · refine lv_iconst (v := nI 0) hx hb dX4_inputs_16 (by decide) ?_
    exact j0 _ (Or.inr ⟨fun q9 => absurd ((iz_lt_r (a := 1) (by omega)).mp c_17) (by omega), rfl⟩)
  · have e1 : 1 ≤ c9.toInt := by have := mt (iz_lt_r (a := 1) (by omega)).mpr c_17; omega
    refine lv_iload_n hx hb dX4_inputs_5 rfl (lv_at hl 3 rfl) ?_
    refine lv_sipush (v := nI 256) hx hb dX4_inputs_6 (by decide) ?_
    refine lv_icmp_gt (tgt := 16) hx hb dX4_inputs_9 (by decide) (fun c_18 => ?_) (fun c_18 => ?_)
    · refine lv_iconst (v := nI 0) hx hb dX4_inputs_16 (by decide) ?_
      exact j0 _ (Or.inr ⟨fun q9 => absurd ((iz_lt_l (a := 256) (by omega)).mp c_18) (by omega), rfl⟩)
    · have e2 : c9.toInt ≤ 256 := by have := mt (iz_lt_l (a := 256) (by omega)).mpr c_18; omega
      refine lv_iconst (v := nI 1) hx hb dX4_inputs_12 (by decide) ?_
      refine lv_goto (tgt := 17) hx hb dX4_inputs_13 (by decide) ?_
      exact j0 _ (Or.inl ⟨⟨e1, e2⟩, rfl⟩)

end X4c
section X4i
variable {l : Launch} {D : va_G} {cI cF cQ : ClassId} {aT sz : Nat}
set_option maxRecDepth 100000 in
set_option maxHeartbeats 4000000 in
/-- new StateKeeperModel(cells) -/
theorem c_X4_init {a0 : Nat} {z : Int32} : Met l yX4_init wsX4_init (rmk 3 10 6608) (pcW l D cI cF cQ aT [.ref a0, .int z] [(a0, .inr (4, [.int 0, .int 0, .null, .int 0, .int 0, .int 0, .int 0, .null, .null, .null, .int 0, .null, .null, .null, .null, .int 0, .null, .null]))] sz) (va_Qv (fun (w1 : va_W) => va_D (va_A [(a0, .inr (4, [.int 0, .int 0, .null, .int 0, .int 0, .int 0, .int 0, .null, .null, .null, .int 0, .null, .null, .null, .null, .int 0, .null, .null]))] sz) w1 ∧ (∃ u : Nat → Nat, u 0 = a0 ∧ WM cI cF u (nOf z) 0 (nI 0) [] x00 w1)) (fun w1 t => va_P D vwCl w1 t.heap) (va_A [(a0, .inr (4, [.int 0, .int 0, .null, .int 0, .int 0, .int 0, .int 0, .null, .null, .null, .int 0, .null, .null, .null, .null, .int 0, .null, .null]))] sz)) 10 6608 (va_A [(a0, .inr (4, [.int 0, .int 0, .null, .int 0, .int 0, .int 0, .int 0, .null, .null, .null, .int 0, .null, .null, .null, .null, .int 0, .null, .null]))] sz) := by
  refine lz_ofM (Qf := fun A => va_Qv (fun (w1 : va_W) => va_D A w1 ∧ (∃ u : Nat → Nat, u 0 = a0 ∧ WM cI cF u (nOf z) 0 (nI 0) [] x00 w1)) (fun w1 t => va_P D vwCl w1 t.heap) A) (cc := cX4_init) (maxL := 2) (ret := none) (by decide) rfl (Nat.le_of_ble_eq_true rfl) ?_
  intro p e s m below meth c A hAe hsz hx hb hr hlk hin hC hP hD hS ls hl
  clear hAe
  have hts := hC.1.2.2.2.2
  have hown : s.vm.findClass RX4 = some m.cls := hC.1.2.2.2.1
  have hml := hC.1.2.2.1
  have hA := hC.2.1
  have hK := hC.2.2.2.1
  have hnm := hC.2.2.2.2.1
  have hnf := hC.2.2.2.2.2.1
  have hiX4 : ∀ w ∈ u_ws RX4 TX4 18, w ∈ wsX4_init := fun _ h => List.mem_cons_of_mem _ (List.mem_append_right _ h)
  have hl : lv_has ls 2 [(0, .ref a0), (1, .int z)] := hl
  refine lv_aload_n hx hb dX4_init_0 rfl (lv_at hl 0 rfl) ?_
  refine W.objInit hx hb hown (hts (.methodLink RX4 1 objectInit) (List.mem_of_getElem? (i := 1) rfl)) (hts (.instanceMethod objectInit) (List.mem_of_getElem? (i := 2) rfl)) (hts (.code objectInit ⟨#[0xb1]⟩ 1 none) (List.mem_of_getElem? (i := 3) rfl)) rfl (by rw [hml]; exact hl.1) rfl dX4_init_1 (Nat.le_of_ble_eq_true rfl) (Nat.le_of_ble_eq_true rfl) ?_
  show W p l e _ s m _ below meth c _ _ _ _ _ (F0 m 4 ls [])
  refine lv_aload_n hx hb dX4_init_4 rfl (lv_at hl 0 rfl) ?_
  refine lv_sipush (v := nI 256) hx hb dX4_init_5 (by decide) ?_
  refine lz_newf (N := 256) hx hb (hts (.arrayClass .float) (List.mem_of_getElem? (i := 4) rfl)) hK hP hD hS hA 0 rfl (by omega) (Nat.le_of_ble_eq_true rfl) (Nat.le_of_ble_eq_true rfl) dX4_init_8 (fun q_1 H hP hD hS => ?_)
  have hP : va_P D vwCl ([(a0, .inr (4, [.int 0, .int 0, .null, .int 0, .int 0, .int 0, .int 0, .null, .null, .null, .int 0, .null, .null, .null, .null, .int 0, .null, .null])), (q_1, .inl (cF, 256, .inr (.inr (.inl (fun _ => 0)))))]) H := hP
  have hD : va_D A ([(a0, .inr (4, [.int 0, .int 0, .null, .int 0, .int 0, .int 0, .int 0, .null, .null, .null, .int 0, .null, .null, .null, .null, .int 0, .null, .null])), (q_1, .inl (cF, 256, .inr (.inr (.inl (fun _ => 0)))))]) := hD
  refine va_putF (D := D) (ci := 4) (v := .ref q_1) (ty := .array .float) (C := RX4) (T := TX4) (N := 18) hx hb hts hiX4 tyX4 tyX4_ok nmX4 hown hK hP hD hS 0 rfl rfl 2 (by decide) (hts (.fieldLink RX4 7 "StateKeeperModel" "cells" "[F") (List.mem_of_getElem? (i := 5) rfl)) (fun _ h9 => h9) rfl hin rfl (by decide +kernel) rfl rfl (Nat.le_of_ble_eq_true rfl) dX4_init_10 (fun H locs hP hD hS => ?_)
  have hP : va_P D vwCl ([(a0, .inr (4, [.int 0, .int 0, .ref q_1, .int 0, .int 0, .int 0, .int 0, .null, .null, .null, .int 0, .null, .null, .null, .null, .int 0, .null, .null])), (q_1, .inl (cF, 256, .inr (.inr (.inl (fun _ => 0)))))]) H := hP
  have hD : va_D A ([(a0, .inr (4, [.int 0, .int 0, .ref q_1, .int 0, .int 0, .int 0, .int 0, .null, .null, .null, .int 0, .null, .null, .null, .null, .int 0, .null, .null])), (q_1, .inl (cF, 256, .inr (.inr (.inl (fun _ => 0)))))]) := hD
  refine lv_aload_n hx hb dX4_init_13 rfl (lv_at hl 0 rfl) ?_
  refine lv_bipush (v := nI 64) hx hb dX4_init_14 (by decide) ?_
  refine lz_newi (N := 64) hx hb (hts (.arrayClass .int) (List.mem_of_getElem? (i := 6) rfl)) hK hP hD hS hA 1 rfl (by omega) (Nat.le_of_ble_eq_true rfl) (Nat.le_of_ble_eq_true rfl) dX4_init_16 (fun q_2 H hP hD hS => ?_)
  have hP : va_P D vwCl ([(a0, .inr (4, [.int 0, .int 0, .ref q_1, .int 0, .int 0, .int 0, .int 0, .null, .null, .null, .int 0, .null, .null, .null, .null, .int 0, .null, .null])), (q_1, .inl (cF, 256, .inr (.inr (.inl (fun _ => 0))))), (q_2, .inl (cI, 64, .inl (fun _ => 0)))]) H := hP
  have hD : va_D A ([(a0, .inr (4, [.int 0, .int 0, .ref q_1, .int 0, .int 0, .int 0, .int 0, .null, .null, .null, .int 0, .null, .null, .null, .null, .int 0, .null, .null])), (q_1, .inl (cF, 256, .inr (.inr (.inl (fun _ => 0))))), (q_2, .inl (cI, 64, .inl (fun _ => 0)))]) := hD
  refine va_putF (D := D) (ci := 4) (v := .ref q_2) (ty := .array .int) (C := RX4) (T := TX4) (N := 18) hx hb hts hiX4 tyX4 tyX4_ok nmX4 hown hK hP hD hS 0 rfl rfl 7 (by decide) (hts (.fieldLink RX4 13 "StateKeeperModel" "from" "[I") (List.mem_of_getElem? (i := 7) rfl)) (fun _ h9 => h9) rfl hin rfl (by decide +kernel) rfl rfl (Nat.le_of_ble_eq_true rfl) dX4_init_18 (fun H locs hP hD hS => ?_)
  have hP : va_P D vwCl ([(a0, .inr (4, [.int 0, .int 0, .ref q_1, .int 0, .int 0, .int 0, .int 0, .ref q_2, .null, .null, .int 0, .null, .null, .null, .null, .int 0, .null, .null])), (q_1, .inl (cF, 256, .inr (.inr (.inl (fun _ => 0))))), (q_2, .inl (cI, 64, .inl (fun _ => 0)))]) H := hP
  have hD : va_D A ([(a0, .inr (4, [.int 0, .int 0, .ref q_1, .int 0, .int 0, .int 0, .int 0, .ref q_2, .null, .null, .int 0, .null, .null, .null, .null, .int 0, .null, .null])), (q_1, .inl (cF, 256, .inr (.inr (.inl (fun _ => 0))))), (q_2, .inl (cI, 64, .inl (fun _ => 0)))]) := hD
  refine lv_aload_n hx hb dX4_init_21 rfl (lv_at hl 0 rfl) ?_
  refine lv_bipush (v := nI 64) hx hb dX4_init_22 (by decide) ?_
  refine lz_newi (N := 64) hx hb (hts (.arrayClass .int) (List.mem_of_getElem? (i := 6) rfl)) hK hP hD hS hA 1 rfl (by omega) (Nat.le_of_ble_eq_true rfl) (Nat.le_of_ble_eq_true rfl) dX4_init_24 (fun q_3 H hP hD hS => ?_)
  have hP : va_P D vwCl ([(a0, .inr (4, [.int 0, .int 0, .ref q_1, .int 0, .int 0, .int 0, .int 0, .ref q_2, .null, .null, .int 0, .null, .null, .null, .null, .int 0, .null, .null])), (q_1, .inl (cF, 256, .inr (.inr (.inl (fun _ => 0))))), (q_2, .inl (cI, 64, .inl (fun _ => 0))), (q_3, .inl (cI, 64, .inl (fun _ => 0)))]) H := hP
  have hD : va_D A ([(a0, .inr (4, [.int 0, .int 0, .ref q_1, .int 0, .int 0, .int 0, .int 0, .ref q_2, .null, .null, .int 0, .null, .null, .null, .null, .int 0, .null, .null])), (q_1, .inl (cF, 256, .inr (.inr (.inl (fun _ => 0))))), (q_2, .inl (cI, 64, .inl (fun _ => 0))), (q_3, .inl (cI, 64, .inl (fun _ => 0)))]) := hD
  refine va_putF (D := D) (ci := 4) (v := .ref q_3) (ty := .array .int) (C := RX4) (T := TX4) (N := 18) hx hb hts hiX4 tyX4 tyX4_ok nmX4 hown hK hP hD hS 0 rfl rfl 8 (by decide) (hts (.fieldLink RX4 17 "StateKeeperModel" "to" "[I") (List.mem_of_getElem? (i := 8) rfl)) (fun _ h9 => h9) rfl hin rfl (by decide +kernel) rfl rfl (Nat.le_of_ble_eq_true rfl) dX4_init_26 (fun H locs hP hD hS => ?_)
  have hP : va_P D vwCl ([(a0, .inr (4, [.int 0, .int 0, .ref q_1, .int 0, .int 0, .int 0, .int 0, .ref q_2, .ref q_3, .null, .int 0, .null, .null, .null, .null, .int 0, .null, .null])), (q_1, .inl (cF, 256, .inr (.inr (.inl (fun _ => 0))))), (q_2, .inl (cI, 64, .inl (fun _ => 0))), (q_3, .inl (cI, 64, .inl (fun _ => 0)))]) H := hP
  have hD : va_D A ([(a0, .inr (4, [.int 0, .int 0, .ref q_1, .int 0, .int 0, .int 0, .int 0, .ref q_2, .ref q_3, .null, .int 0, .null, .null, .null, .null, .int 0, .null, .null])), (q_1, .inl (cF, 256, .inr (.inr (.inl (fun _ => 0))))), (q_2, .inl (cI, 64, .inl (fun _ => 0))), (q_3, .inl (cI, 64, .inl (fun _ => 0)))]) := hD
  refine lv_aload_n hx hb dX4_init_29 rfl (lv_at hl 0 rfl) ?_
  refine lv_bipush (v := nI 64) hx hb dX4_init_30 (by decide) ?_
  refine lz_newf (N := 64) hx hb (hts (.arrayClass .float) (List.mem_of_getElem? (i := 4) rfl)) hK hP hD hS hA 0 rfl (by omega) (Nat.le_of_ble_eq_true rfl) (Nat.le_of_ble_eq_true rfl) dX4_init_32 (fun q_4 H hP hD hS => ?_)
  have hP : va_P D vwCl ([(a0, .inr (4, [.int 0, .int 0, .ref q_1, .int 0, .int 0, .int 0, .int 0, .ref q_2, .ref q_3, .null, .int 0, .null, .null, .null, .null, .int 0, .null, .null])), (q_1, .inl (cF, 256, .inr (.inr (.inl (fun _ => 0))))), (q_2, .inl (cI, 64, .inl (fun _ => 0))), (q_3, .inl (cI, 64, .inl (fun _ => 0))), (q_4, .inl (cF, 64, .inr (.inr (.inl (fun _ => 0)))))]) H := hP
  have hD : va_D A ([(a0, .inr (4, [.int 0, .int 0, .ref q_1, .int 0, .int 0, .int 0, .int 0, .ref q_2, .ref q_3, .null, .int 0, .null, .null, .null, .null, .int 0, .null, .null])), (q_1, .inl (cF, 256, .inr (.inr (.inl (fun _ => 0))))), (q_2, .inl (cI, 64, .inl (fun _ => 0))), (q_3, .inl (cI, 64, .inl (fun _ => 0))), (q_4, .inl (cF, 64, .inr (.inr (.inl (fun _ => 0)))))]) := hD
  refine va_putF (D := D) (ci := 4) (v := .ref q_4) (ty := .array .float) (C := RX4) (T := TX4) (N := 18) hx hb hts hiX4 tyX4 tyX4_ok nmX4 hown hK hP hD hS 0 rfl rfl 9 (by decide) (hts (.fieldLink RX4 20 "StateKeeperModel" "factors" "[F") (List.mem_of_getElem? (i := 9) rfl)) (fun _ h9 => h9) rfl hin rfl (by decide +kernel) rfl rfl (Nat.le_of_ble_eq_true rfl) dX4_init_34 (fun H locs hP hD hS => ?_)
  have hP : va_P D vwCl ([(a0, .inr (4, [.int 0, .int 0, .ref q_1, .int 0, .int 0, .int 0, .int 0, .ref q_2, .ref q_3, .ref q_4, .int 0, .null, .null, .null, .null, .int 0, .null, .null])), (q_1, .inl (cF, 256, .inr (.inr (.inl (fun _ => 0))))), (q_2, .inl (cI, 64, .inl (fun _ => 0))), (q_3, .inl (cI, 64, .inl (fun _ => 0))), (q_4, .inl (cF, 64, .inr (.inr (.inl (fun _ => 0)))))]) H := hP
  have hD : va_D A ([(a0, .inr (4, [.int 0, .int 0, .ref q_1, .int 0, .int 0, .int 0, .int 0, .ref q_2, .ref q_3, .ref q_4, .int 0, .null, .null, .null, .null, .int 0, .null, .null])), (q_1, .inl (cF, 256, .inr (.inr (.inl (fun _ => 0))))), (q_2, .inl (cI, 64, .inl (fun _ => 0))), (q_3, .inl (cI, 64, .inl (fun _ => 0))), (q_4, .inl (cF, 64, .inr (.inr (.inl (fun _ => 0)))))]) := hD
  refine lv_aload_n hx hb dX4_init_37 rfl (lv_at hl 0 rfl) ?_
  refine lv_sipush (v := nI 512) hx hb dX4_init_38 (by decide) ?_
  refine lz_newi (N := 512) hx hb (hts (.arrayClass .int) (List.mem_of_getElem? (i := 6) rfl)) hK hP hD hS hA 1 rfl (by omega) (Nat.le_of_ble_eq_true rfl) (Nat.le_of_ble_eq_true rfl) dX4_init_41 (fun q_5 H hP hD hS => ?_)
  have hP : va_P D vwCl ([(a0, .inr (4, [.int 0, .int 0, .ref q_1, .int 0, .int 0, .int 0, .int 0, .ref q_2, .ref q_3, .ref q_4, .int 0, .null, .null, .null, .null, .int 0, .null, .null])), (q_1, .inl (cF, 256, .inr (.inr (.inl (fun _ => 0))))), (q_2, .inl (cI, 64, .inl (fun _ => 0))), (q_3, .inl (cI, 64, .inl (fun _ => 0))), (q_4, .inl (cF, 64, .inr (.inr (.inl (fun _ => 0))))), (q_5, .inl (cI, 512, .inl (fun _ => 0)))]) H := hP
  have hD : va_D A ([(a0, .inr (4, [.int 0, .int 0, .ref q_1, .int 0, .int 0, .int 0, .int 0, .ref q_2, .ref q_3, .ref q_4, .int 0, .null, .null, .null, .null, .int 0, .null, .null])), (q_1, .inl (cF, 256, .inr (.inr (.inl (fun _ => 0))))), (q_2, .inl (cI, 64, .inl (fun _ => 0))), (q_3, .inl (cI, 64, .inl (fun _ => 0))), (q_4, .inl (cF, 64, .inr (.inr (.inl (fun _ => 0))))), (q_5, .inl (cI, 512, .inl (fun _ => 0)))]) := hD
  refine va_putF (D := D) (ci := 4) (v := .ref q_5) (ty := .array .int) (C := RX4) (T := TX4) (N := 18) hx hb hts hiX4 tyX4 tyX4_ok nmX4 hown hK hP hD hS 0 rfl rfl 11 (by decide) (hts (.fieldLink RX4 23 "StateKeeperModel" "steps" "[I") (List.mem_of_getElem? (i := 10) rfl)) (fun _ h9 => h9) rfl hin rfl (by decide +kernel) rfl rfl (Nat.le_of_ble_eq_true rfl) dX4_init_43 (fun H locs hP hD hS => ?_)
  have hP : va_P D vwCl ([(a0, .inr (4, [.int 0, .int 0, .ref q_1, .int 0, .int 0, .int 0, .int 0, .ref q_2, .ref q_3, .ref q_4, .int 0, .ref q_5, .null, .null, .null, .int 0, .null, .null])), (q_1, .inl (cF, 256, .inr (.inr (.inl (fun _ => 0))))), (q_2, .inl (cI, 64, .inl (fun _ => 0))), (q_3, .inl (cI, 64, .inl (fun _ => 0))), (q_4, .inl (cF, 64, .inr (.inr (.inl (fun _ => 0))))), (q_5, .inl (cI, 512, .inl (fun _ => 0)))]) H := hP
  have hD : va_D A ([(a0, .inr (4, [.int 0, .int 0, .ref q_1, .int 0, .int 0, .int 0, .int 0, .ref q_2, .ref q_3, .ref q_4, .int 0, .ref q_5, .null, .null, .null, .int 0, .null, .null])), (q_1, .inl (cF, 256, .inr (.inr (.inl (fun _ => 0))))), (q_2, .inl (cI, 64, .inl (fun _ => 0))), (q_3, .inl (cI, 64, .inl (fun _ => 0))), (q_4, .inl (cF, 64, .inr (.inr (.inl (fun _ => 0))))), (q_5, .inl (cI, 512, .inl (fun _ => 0)))]) := hD
  refine lv_aload_n hx hb dX4_init_46 rfl (lv_at hl 0 rfl) ?_
  refine lv_sipush (v := nI 512) hx hb dX4_init_47 (by decide) ?_
  refine lz_newi (N := 512) hx hb (hts (.arrayClass .int) (List.mem_of_getElem? (i := 6) rfl)) hK hP hD hS hA 1 rfl (by omega) (Nat.le_of_ble_eq_true rfl) (Nat.le_of_ble_eq_true rfl) dX4_init_50 (fun q_6 H hP hD hS => ?_)
  have hP : va_P D vwCl ([(a0, .inr (4, [.int 0, .int 0, .ref q_1, .int 0, .int 0, .int 0, .int 0, .ref q_2, .ref q_3, .ref q_4, .int 0, .ref q_5, .null, .null, .null, .int 0, .null, .null])), (q_1, .inl (cF, 256, .inr (.inr (.inl (fun _ => 0))))), (q_2, .inl (cI, 64, .inl (fun _ => 0))), (q_3, .inl (cI, 64, .inl (fun _ => 0))), (q_4, .inl (cF, 64, .inr (.inr (.inl (fun _ => 0))))), (q_5, .inl (cI, 512, .inl (fun _ => 0))), (q_6, .inl (cI, 512, .inl (fun _ => 0)))]) H := hP
  have hD : va_D A ([(a0, .inr (4, [.int 0, .int 0, .ref q_1, .int 0, .int 0, .int 0, .int 0, .ref q_2, .ref q_3, .ref q_4, .int 0, .ref q_5, .null, .null, .null, .int 0, .null, .null])), (q_1, .inl (cF, 256, .inr (.inr (.inl (fun _ => 0))))), (q_2, .inl (cI, 64, .inl (fun _ => 0))), (q_3, .inl (cI, 64, .inl (fun _ => 0))), (q_4, .inl (cF, 64, .inr (.inr (.inl (fun _ => 0))))), (q_5, .inl (cI, 512, .inl (fun _ => 0))), (q_6, .inl (cI, 512, .inl (fun _ => 0)))]) := hD
  refine va_putF (D := D) (ci := 4) (v := .ref q_6) (ty := .array .int) (C := RX4) (T := TX4) (N := 18) hx hb hts hiX4 tyX4 tyX4_ok nmX4 hown hK hP hD hS 0 rfl rfl 12 (by decide) (hts (.fieldLink RX4 26 "StateKeeperModel" "which" "[I") (List.mem_of_getElem? (i := 11) rfl)) (fun _ h9 => h9) rfl hin rfl (by decide +kernel) rfl rfl (Nat.le_of_ble_eq_true rfl) dX4_init_52 (fun H locs hP hD hS => ?_)
  have hP : va_P D vwCl ([(a0, .inr (4, [.int 0, .int 0, .ref q_1, .int 0, .int 0, .int 0, .int 0, .ref q_2, .ref q_3, .ref q_4, .int 0, .ref q_5, .ref q_6, .null, .null, .int 0, .null, .null])), (q_1, .inl (cF, 256, .inr (.inr (.inl (fun _ => 0))))), (q_2, .inl (cI, 64, .inl (fun _ => 0))), (q_3, .inl (cI, 64, .inl (fun _ => 0))), (q_4, .inl (cF, 64, .inr (.inr (.inl (fun _ => 0))))), (q_5, .inl (cI, 512, .inl (fun _ => 0))), (q_6, .inl (cI, 512, .inl (fun _ => 0)))]) H := hP
  have hD : va_D A ([(a0, .inr (4, [.int 0, .int 0, .ref q_1, .int 0, .int 0, .int 0, .int 0, .ref q_2, .ref q_3, .ref q_4, .int 0, .ref q_5, .ref q_6, .null, .null, .int 0, .null, .null])), (q_1, .inl (cF, 256, .inr (.inr (.inl (fun _ => 0))))), (q_2, .inl (cI, 64, .inl (fun _ => 0))), (q_3, .inl (cI, 64, .inl (fun _ => 0))), (q_4, .inl (cF, 64, .inr (.inr (.inl (fun _ => 0))))), (q_5, .inl (cI, 512, .inl (fun _ => 0))), (q_6, .inl (cI, 512, .inl (fun _ => 0)))]) := hD
  refine lv_aload_n hx hb dX4_init_55 rfl (lv_at hl 0 rfl) ?_
  refine lv_sipush (v := nI 512) hx hb dX4_init_56 (by decide) ?_
  refine lz_newi (N := 512) hx hb (hts (.arrayClass .int) (List.mem_of_getElem? (i := 6) rfl)) hK hP hD hS hA 1 rfl (by omega) (Nat.le_of_ble_eq_true rfl) (Nat.le_of_ble_eq_true rfl) dX4_init_59 (fun q_7 H hP hD hS => ?_)
  have hP : va_P D vwCl ([(a0, .inr (4, [.int 0, .int 0, .ref q_1, .int 0, .int 0, .int 0, .int 0, .ref q_2, .ref q_3, .ref q_4, .int 0, .ref q_5, .ref q_6, .null, .null, .int 0, .null, .null])), (q_1, .inl (cF, 256, .inr (.inr (.inl (fun _ => 0))))), (q_2, .inl (cI, 64, .inl (fun _ => 0))), (q_3, .inl (cI, 64, .inl (fun _ => 0))), (q_4, .inl (cF, 64, .inr (.inr (.inl (fun _ => 0))))), (q_5, .inl (cI, 512, .inl (fun _ => 0))), (q_6, .inl (cI, 512, .inl (fun _ => 0))), (q_7, .inl (cI, 512, .inl (fun _ => 0)))]) H := hP
  have hD : va_D A ([(a0, .inr (4, [.int 0, .int 0, .ref q_1, .int 0, .int 0, .int 0, .int 0, .ref q_2, .ref q_3, .ref q_4, .int 0, .ref q_5, .ref q_6, .null, .null, .int 0, .null, .null])), (q_1, .inl (cF, 256, .inr (.inr (.inl (fun _ => 0))))), (q_2, .inl (cI, 64, .inl (fun _ => 0))), (q_3, .inl (cI, 64, .inl (fun _ => 0))), (q_4, .inl (cF, 64, .inr (.inr (.inl (fun _ => 0))))), (q_5, .inl (cI, 512, .inl (fun _ => 0))), (q_6, .inl (cI, 512, .inl (fun _ => 0))), (q_7, .inl (cI, 512, .inl (fun _ => 0)))]) := hD
  refine va_putF (D := D) (ci := 4) (v := .ref q_7) (ty := .array .int) (C := RX4) (T := TX4) (N := 18) hx hb hts hiX4 tyX4 tyX4_ok nmX4 hown hK hP hD hS 0 rfl rfl 13 (by decide) (hts (.fieldLink RX4 29 "StateKeeperModel" "ways" "[I") (List.mem_of_getElem? (i := 12) rfl)) (fun _ h9 => h9) rfl hin rfl (by decide +kernel) rfl rfl (Nat.le_of_ble_eq_true rfl) dX4_init_61 (fun H locs hP hD hS => ?_)
  have hP : va_P D vwCl ([(a0, .inr (4, [.int 0, .int 0, .ref q_1, .int 0, .int 0, .int 0, .int 0, .ref q_2, .ref q_3, .ref q_4, .int 0, .ref q_5, .ref q_6, .ref q_7, .null, .int 0, .null, .null])), (q_1, .inl (cF, 256, .inr (.inr (.inl (fun _ => 0))))), (q_2, .inl (cI, 64, .inl (fun _ => 0))), (q_3, .inl (cI, 64, .inl (fun _ => 0))), (q_4, .inl (cF, 64, .inr (.inr (.inl (fun _ => 0))))), (q_5, .inl (cI, 512, .inl (fun _ => 0))), (q_6, .inl (cI, 512, .inl (fun _ => 0))), (q_7, .inl (cI, 512, .inl (fun _ => 0)))]) H := hP
  have hD : va_D A ([(a0, .inr (4, [.int 0, .int 0, .ref q_1, .int 0, .int 0, .int 0, .int 0, .ref q_2, .ref q_3, .ref q_4, .int 0, .ref q_5, .ref q_6, .ref q_7, .null, .int 0, .null, .null])), (q_1, .inl (cF, 256, .inr (.inr (.inl (fun _ => 0))))), (q_2, .inl (cI, 64, .inl (fun _ => 0))), (q_3, .inl (cI, 64, .inl (fun _ => 0))), (q_4, .inl (cF, 64, .inr (.inr (.inl (fun _ => 0))))), (q_5, .inl (cI, 512, .inl (fun _ => 0))), (q_6, .inl (cI, 512, .inl (fun _ => 0))), (q_7, .inl (cI, 512, .inl (fun _ => 0)))]) := hD
  refine lv_aload_n hx hb dX4_init_64 rfl (lv_at hl 0 rfl) ?_
  refine lv_sipush (v := nI 512) hx hb dX4_init_65 (by decide) ?_
  refine lz_newf (N := 512) hx hb (hts (.arrayClass .float) (List.mem_of_getElem? (i := 4) rfl)) hK hP hD hS hA 0 rfl (by omega) (Nat.le_of_ble_eq_true rfl) (Nat.le_of_ble_eq_true rfl) dX4_init_68 (fun q_8 H hP hD hS => ?_)
  have hP : va_P D vwCl ([(a0, .inr (4, [.int 0, .int 0, .ref q_1, .int 0, .int 0, .int 0, .int 0, .ref q_2, .ref q_3, .ref q_4, .int 0, .ref q_5, .ref q_6, .ref q_7, .null, .int 0, .null, .null])), (q_1, .inl (cF, 256, .inr (.inr (.inl (fun _ => 0))))), (q_2, .inl (cI, 64, .inl (fun _ => 0))), (q_3, .inl (cI, 64, .inl (fun _ => 0))), (q_4, .inl (cF, 64, .inr (.inr (.inl (fun _ => 0))))), (q_5, .inl (cI, 512, .inl (fun _ => 0))), (q_6, .inl (cI, 512, .inl (fun _ => 0))), (q_7, .inl (cI, 512, .inl (fun _ => 0))), (q_8, .inl (cF, 512, .inr (.inr (.inl (fun _ => 0)))))]) H := hP
  have hD : va_D A ([(a0, .inr (4, [.int 0, .int 0, .ref q_1, .int 0, .int 0, .int 0, .int 0, .ref q_2, .ref q_3, .ref q_4, .int 0, .ref q_5, .ref q_6, .ref q_7, .null, .int 0, .null, .null])), (q_1, .inl (cF, 256, .inr (.inr (.inl (fun _ => 0))))), (q_2, .inl (cI, 64, .inl (fun _ => 0))), (q_3, .inl (cI, 64, .inl (fun _ => 0))), (q_4, .inl (cF, 64, .inr (.inr (.inl (fun _ => 0))))), (q_5, .inl (cI, 512, .inl (fun _ => 0))), (q_6, .inl (cI, 512, .inl (fun _ => 0))), (q_7, .inl (cI, 512, .inl (fun _ => 0))), (q_8, .inl (cF, 512, .inr (.inr (.inl (fun _ => 0)))))]) := hD
  refine va_putF (D := D) (ci := 4) (v := .ref q_8) (ty := .array .float) (C := RX4) (T := TX4) (N := 18) hx hb hts hiX4 tyX4 tyX4_ok nmX4 hown hK hP hD hS 0 rfl rfl 14 (by decide) (hts (.fieldLink RX4 32 "StateKeeperModel" "values" "[F") (List.mem_of_getElem? (i := 13) rfl)) (fun _ h9 => h9) rfl hin rfl (by decide +kernel) rfl rfl (Nat.le_of_ble_eq_true rfl) dX4_init_70 (fun H locs hP hD hS => ?_)
  have hP : va_P D vwCl ([(a0, .inr (4, [.int 0, .int 0, .ref q_1, .int 0, .int 0, .int 0, .int 0, .ref q_2, .ref q_3, .ref q_4, .int 0, .ref q_5, .ref q_6, .ref q_7, .ref q_8, .int 0, .null, .null])), (q_1, .inl (cF, 256, .inr (.inr (.inl (fun _ => 0))))), (q_2, .inl (cI, 64, .inl (fun _ => 0))), (q_3, .inl (cI, 64, .inl (fun _ => 0))), (q_4, .inl (cF, 64, .inr (.inr (.inl (fun _ => 0))))), (q_5, .inl (cI, 512, .inl (fun _ => 0))), (q_6, .inl (cI, 512, .inl (fun _ => 0))), (q_7, .inl (cI, 512, .inl (fun _ => 0))), (q_8, .inl (cF, 512, .inr (.inr (.inl (fun _ => 0)))))]) H := hP
  have hD : va_D A ([(a0, .inr (4, [.int 0, .int 0, .ref q_1, .int 0, .int 0, .int 0, .int 0, .ref q_2, .ref q_3, .ref q_4, .int 0, .ref q_5, .ref q_6, .ref q_7, .ref q_8, .int 0, .null, .null])), (q_1, .inl (cF, 256, .inr (.inr (.inl (fun _ => 0))))), (q_2, .inl (cI, 64, .inl (fun _ => 0))), (q_3, .inl (cI, 64, .inl (fun _ => 0))), (q_4, .inl (cF, 64, .inr (.inr (.inl (fun _ => 0))))), (q_5, .inl (cI, 512, .inl (fun _ => 0))), (q_6, .inl (cI, 512, .inl (fun _ => 0))), (q_7, .inl (cI, 512, .inl (fun _ => 0))), (q_8, .inl (cF, 512, .inr (.inr (.inl (fun _ => 0)))))]) := hD
  refine lv_aload_n hx hb dX4_init_73 rfl (lv_at hl 0 rfl) ?_
  refine lv_bipush (v := nI 16) hx hb dX4_init_74 (by decide) ?_
  refine lz_newi (N := 16) hx hb (hts (.arrayClass .int) (List.mem_of_getElem? (i := 6) rfl)) hK hP hD hS hA 1 rfl (by omega) (Nat.le_of_ble_eq_true rfl) (Nat.le_of_ble_eq_true rfl) dX4_init_76 (fun q_9 H hP hD hS => ?_)
  have hP : va_P D vwCl ([(a0, .inr (4, [.int 0, .int 0, .ref q_1, .int 0, .int 0, .int 0, .int 0, .ref q_2, .ref q_3, .ref q_4, .int 0, .ref q_5, .ref q_6, .ref q_7, .ref q_8, .int 0, .null, .null])), (q_1, .inl (cF, 256, .inr (.inr (.inl (fun _ => 0))))), (q_2, .inl (cI, 64, .inl (fun _ => 0))), (q_3, .inl (cI, 64, .inl (fun _ => 0))), (q_4, .inl (cF, 64, .inr (.inr (.inl (fun _ => 0))))), (q_5, .inl (cI, 512, .inl (fun _ => 0))), (q_6, .inl (cI, 512, .inl (fun _ => 0))), (q_7, .inl (cI, 512, .inl (fun _ => 0))), (q_8, .inl (cF, 512, .inr (.inr (.inl (fun _ => 0))))), (q_9, .inl (cI, 16, .inl (fun _ => 0)))]) H := hP
  have hD : va_D A ([(a0, .inr (4, [.int 0, .int 0, .ref q_1, .int 0, .int 0, .int 0, .int 0, .ref q_2, .ref q_3, .ref q_4, .int 0, .ref q_5, .ref q_6, .ref q_7, .ref q_8, .int 0, .null, .null])), (q_1, .inl (cF, 256, .inr (.inr (.inl (fun _ => 0))))), (q_2, .inl (cI, 64, .inl (fun _ => 0))), (q_3, .inl (cI, 64, .inl (fun _ => 0))), (q_4, .inl (cF, 64, .inr (.inr (.inl (fun _ => 0))))), (q_5, .inl (cI, 512, .inl (fun _ => 0))), (q_6, .inl (cI, 512, .inl (fun _ => 0))), (q_7, .inl (cI, 512, .inl (fun _ => 0))), (q_8, .inl (cF, 512, .inr (.inr (.inl (fun _ => 0))))), (q_9, .inl (cI, 16, .inl (fun _ => 0)))]) := hD
  refine va_putF (D := D) (ci := 4) (v := .ref q_9) (ty := .array .int) (C := RX4) (T := TX4) (N := 18) hx hb hts hiX4 tyX4 tyX4_ok nmX4 hown hK hP hD hS 0 rfl rfl 16 (by decide) (hts (.fieldLink RX4 35 "StateKeeperModel" "keptSteps" "[I") (List.mem_of_getElem? (i := 14) rfl)) (fun _ h9 => h9) rfl hin rfl (by decide +kernel) rfl rfl (Nat.le_of_ble_eq_true rfl) dX4_init_78 (fun H locs hP hD hS => ?_)
  have hP : va_P D vwCl ([(a0, .inr (4, [.int 0, .int 0, .ref q_1, .int 0, .int 0, .int 0, .int 0, .ref q_2, .ref q_3, .ref q_4, .int 0, .ref q_5, .ref q_6, .ref q_7, .ref q_8, .int 0, .ref q_9, .null])), (q_1, .inl (cF, 256, .inr (.inr (.inl (fun _ => 0))))), (q_2, .inl (cI, 64, .inl (fun _ => 0))), (q_3, .inl (cI, 64, .inl (fun _ => 0))), (q_4, .inl (cF, 64, .inr (.inr (.inl (fun _ => 0))))), (q_5, .inl (cI, 512, .inl (fun _ => 0))), (q_6, .inl (cI, 512, .inl (fun _ => 0))), (q_7, .inl (cI, 512, .inl (fun _ => 0))), (q_8, .inl (cF, 512, .inr (.inr (.inl (fun _ => 0))))), (q_9, .inl (cI, 16, .inl (fun _ => 0)))]) H := hP
  have hD : va_D A ([(a0, .inr (4, [.int 0, .int 0, .ref q_1, .int 0, .int 0, .int 0, .int 0, .ref q_2, .ref q_3, .ref q_4, .int 0, .ref q_5, .ref q_6, .ref q_7, .ref q_8, .int 0, .ref q_9, .null])), (q_1, .inl (cF, 256, .inr (.inr (.inl (fun _ => 0))))), (q_2, .inl (cI, 64, .inl (fun _ => 0))), (q_3, .inl (cI, 64, .inl (fun _ => 0))), (q_4, .inl (cF, 64, .inr (.inr (.inl (fun _ => 0))))), (q_5, .inl (cI, 512, .inl (fun _ => 0))), (q_6, .inl (cI, 512, .inl (fun _ => 0))), (q_7, .inl (cI, 512, .inl (fun _ => 0))), (q_8, .inl (cF, 512, .inr (.inr (.inl (fun _ => 0))))), (q_9, .inl (cI, 16, .inl (fun _ => 0)))]) := hD
  refine lv_aload_n hx hb dX4_init_81 rfl (lv_at hl 0 rfl) ?_
  refine lv_sipush (v := nI 4096) hx hb dX4_init_82 (by decide) ?_
  refine lz_newf (N := 4096) hx hb (hts (.arrayClass .float) (List.mem_of_getElem? (i := 4) rfl)) hK hP hD hS hA 0 rfl (by omega) (Nat.le_of_ble_eq_true rfl) (Nat.le_of_ble_eq_true rfl) dX4_init_85 (fun q_10 H hP hD hS => ?_)
  have hP : va_P D vwCl ([(a0, .inr (4, [.int 0, .int 0, .ref q_1, .int 0, .int 0, .int 0, .int 0, .ref q_2, .ref q_3, .ref q_4, .int 0, .ref q_5, .ref q_6, .ref q_7, .ref q_8, .int 0, .ref q_9, .null])), (q_1, .inl (cF, 256, .inr (.inr (.inl (fun _ => 0))))), (q_2, .inl (cI, 64, .inl (fun _ => 0))), (q_3, .inl (cI, 64, .inl (fun _ => 0))), (q_4, .inl (cF, 64, .inr (.inr (.inl (fun _ => 0))))), (q_5, .inl (cI, 512, .inl (fun _ => 0))), (q_6, .inl (cI, 512, .inl (fun _ => 0))), (q_7, .inl (cI, 512, .inl (fun _ => 0))), (q_8, .inl (cF, 512, .inr (.inr (.inl (fun _ => 0))))), (q_9, .inl (cI, 16, .inl (fun _ => 0))), (q_10, .inl (cF, 4096, .inr (.inr (.inl (fun _ => 0)))))]) H := hP
  have hD : va_D A ([(a0, .inr (4, [.int 0, .int 0, .ref q_1, .int 0, .int 0, .int 0, .int 0, .ref q_2, .ref q_3, .ref q_4, .int 0, .ref q_5, .ref q_6, .ref q_7, .ref q_8, .int 0, .ref q_9, .null])), (q_1, .inl (cF, 256, .inr (.inr (.inl (fun _ => 0))))), (q_2, .inl (cI, 64, .inl (fun _ => 0))), (q_3, .inl (cI, 64, .inl (fun _ => 0))), (q_4, .inl (cF, 64, .inr (.inr (.inl (fun _ => 0))))), (q_5, .inl (cI, 512, .inl (fun _ => 0))), (q_6, .inl (cI, 512, .inl (fun _ => 0))), (q_7, .inl (cI, 512, .inl (fun _ => 0))), (q_8, .inl (cF, 512, .inr (.inr (.inl (fun _ => 0))))), (q_9, .inl (cI, 16, .inl (fun _ => 0))), (q_10, .inl (cF, 4096, .inr (.inr (.inl (fun _ => 0)))))]) := hD
  refine va_putF (D := D) (ci := 4) (v := .ref q_10) (ty := .array .float) (C := RX4) (T := TX4) (N := 18) hx hb hts hiX4 tyX4 tyX4_ok nmX4 hown hK hP hD hS 0 rfl rfl 17 (by decide) (hts (.fieldLink RX4 38 "StateKeeperModel" "keptCells" "[F") (List.mem_of_getElem? (i := 15) rfl)) (fun _ h9 => h9) rfl hin rfl (by decide +kernel) rfl rfl (Nat.le_of_ble_eq_true rfl) dX4_init_87 (fun H locs hP hD hS => ?_)
  have hP : va_P D vwCl ([(a0, .inr (4, [.int 0, .int 0, .ref q_1, .int 0, .int 0, .int 0, .int 0, .ref q_2, .ref q_3, .ref q_4, .int 0, .ref q_5, .ref q_6, .ref q_7, .ref q_8, .int 0, .ref q_9, .ref q_10])), (q_1, .inl (cF, 256, .inr (.inr (.inl (fun _ => 0))))), (q_2, .inl (cI, 64, .inl (fun _ => 0))), (q_3, .inl (cI, 64, .inl (fun _ => 0))), (q_4, .inl (cF, 64, .inr (.inr (.inl (fun _ => 0))))), (q_5, .inl (cI, 512, .inl (fun _ => 0))), (q_6, .inl (cI, 512, .inl (fun _ => 0))), (q_7, .inl (cI, 512, .inl (fun _ => 0))), (q_8, .inl (cF, 512, .inr (.inr (.inl (fun _ => 0))))), (q_9, .inl (cI, 16, .inl (fun _ => 0))), (q_10, .inl (cF, 4096, .inr (.inr (.inl (fun _ => 0)))))]) H := hP
  have hD : va_D A ([(a0, .inr (4, [.int 0, .int 0, .ref q_1, .int 0, .int 0, .int 0, .int 0, .ref q_2, .ref q_3, .ref q_4, .int 0, .ref q_5, .ref q_6, .ref q_7, .ref q_8, .int 0, .ref q_9, .ref q_10])), (q_1, .inl (cF, 256, .inr (.inr (.inl (fun _ => 0))))), (q_2, .inl (cI, 64, .inl (fun _ => 0))), (q_3, .inl (cI, 64, .inl (fun _ => 0))), (q_4, .inl (cF, 64, .inr (.inr (.inl (fun _ => 0))))), (q_5, .inl (cI, 512, .inl (fun _ => 0))), (q_6, .inl (cI, 512, .inl (fun _ => 0))), (q_7, .inl (cI, 512, .inl (fun _ => 0))), (q_8, .inl (cF, 512, .inr (.inr (.inl (fun _ => 0))))), (q_9, .inl (cI, 16, .inl (fun _ => 0))), (q_10, .inl (cF, 4096, .inr (.inr (.inl (fun _ => 0)))))]) := hD
  have rest : ∀ nn : Nat, 1 ≤ nn → nn ≤ 256 → nn = nOf z → W p l e (rmk 3 10 6608) s m [.ref a0, .int z].toArray below meth c H locs 10 6608 (MQ below (va_Qv (fun (w1 : va_W) => va_D A w1 ∧ (∃ u : Nat → Nat, u 0 = a0 ∧ WM cI cF u (nOf z) 0 (nI 0) [] x00 w1)) (fun w1 t => va_P D vwCl w1 t.heap) A) [.ref a0, .int z].toArray s 10 6608 A) (F0 m 109 ls [.int (nI nn), .ref a0]) := by
    intro nn hn1 hn2 hnn
    refine va_putF (D := D) (ci := 4) (v := .int (nI nn)) (ty := .int) (C := RX4) (T := TX4) (N := 18) hx hb hts hiX4 tyX4 tyX4_ok nmX4 hown hK hP hD hS 0 rfl rfl 1 (by decide) (hts (.fieldLink RX4 41 "StateKeeperModel" "n" "I") (List.mem_of_getElem? (i := 16) rfl)) (fun _ h9 => h9) rfl hin rfl (by decide +kernel) rfl rfl (Nat.le_of_ble_eq_true rfl) dX4_init_109 (fun H locs hP hD hS => ?_)
    have hP : va_P D vwCl ([(a0, .inr (4, [.int 0, .int (nI nn), .ref q_1, .int 0, .int 0, .int 0, .int 0, .ref q_2, .ref q_3, .ref q_4, .int 0, .ref q_5, .ref q_6, .ref q_7, .ref q_8, .int 0, .ref q_9, .ref q_10])), (q_1, .inl (cF, 256, .inr (.inr (.inl (fun _ => 0))))), (q_2, .inl (cI, 64, .inl (fun _ => 0))), (q_3, .inl (cI, 64, .inl (fun _ => 0))), (q_4, .inl (cF, 64, .inr (.inr (.inl (fun _ => 0))))), (q_5, .inl (cI, 512, .inl (fun _ => 0))), (q_6, .inl (cI, 512, .inl (fun _ => 0))), (q_7, .inl (cI, 512, .inl (fun _ => 0))), (q_8, .inl (cF, 512, .inr (.inr (.inl (fun _ => 0))))), (q_9, .inl (cI, 16, .inl (fun _ => 0))), (q_10, .inl (cF, 4096, .inr (.inr (.inl (fun _ => 0)))))]) H := hP
    have hD : va_D A ([(a0, .inr (4, [.int 0, .int (nI nn), .ref q_1, .int 0, .int 0, .int 0, .int 0, .ref q_2, .ref q_3, .ref q_4, .int 0, .ref q_5, .ref q_6, .ref q_7, .ref q_8, .int 0, .ref q_9, .ref q_10])), (q_1, .inl (cF, 256, .inr (.inr (.inl (fun _ => 0))))), (q_2, .inl (cI, 64, .inl (fun _ => 0))), (q_3, .inl (cI, 64, .inl (fun _ => 0))), (q_4, .inl (cF, 64, .inr (.inr (.inl (fun _ => 0))))), (q_5, .inl (cI, 512, .inl (fun _ => 0))), (q_6, .inl (cI, 512, .inl (fun _ => 0))), (q_7, .inl (cI, 512, .inl (fun _ => 0))), (q_8, .inl (cF, 512, .inr (.inr (.inl (fun _ => 0))))), (q_9, .inl (cI, 16, .inl (fun _ => 0))), (q_10, .inl (cF, 4096, .inr (.inr (.inl (fun _ => 0)))))]) := hD
    refine lv_aload_n hx hb dX4_init_112 rfl (lv_at hl 0 rfl) ?_
    have hw9 : WM cI cF (fun i => match i with | 0 => a0 | 1 => q_1 | 2 => q_2 | 3 => q_3 | 4 => q_4 | 5 => q_5 | 6 => q_6 | 7 => q_7 | 8 => q_8 | 9 => q_9 | _ => q_10) nn 0 (nI 0) [] (fun _ => 0, 0, 0, [], []) ([(a0, .inr (4, [.int 0, .int (nI nn), .ref q_1, .int 0, .int 0, .int 0, .int 0, .ref q_2, .ref q_3, .ref q_4, .int 0, .ref q_5, .ref q_6, .ref q_7, .ref q_8, .int 0, .ref q_9, .ref q_10])), (q_1, .inl (cF, 256, .inr (.inr (.inl (fun _ => 0))))), (q_2, .inl (cI, 64, .inl (fun _ => 0))), (q_3, .inl (cI, 64, .inl (fun _ => 0))), (q_4, .inl (cF, 64, .inr (.inr (.inl (fun _ => 0))))), (q_5, .inl (cI, 512, .inl (fun _ => 0))), (q_6, .inl (cI, 512, .inl (fun _ => 0))), (q_7, .inl (cI, 512, .inl (fun _ => 0))), (q_8, .inl (cF, 512, .inr (.inr (.inl (fun _ => 0))))), (q_9, .inl (cI, 16, .inl (fun _ => 0))), (q_10, .inl (cF, 4096, .inr (.inr (.inl (fun _ => 0)))))]) := ⟨_, _, _, _, _, _, _, _, _, (fun j d hj => nomatch (show (none : Option dI) = some d from hj)), (fun j d hj => nomatch (show (none : Option rI) = some d from hj)), (fun j d hj => nomatch (show (none : Option sE) = some d from hj)), rfl⟩
    refine lz_cMv0 (lz_runV (C := RX4) (As := []) (rest := []) hC hS hl (c_X4_keepNow (x := (fun _ => 0, 0, 0, [], [])) ⟨List.Pairwise.nil, by decide, fun e he => by cases he⟩ ⟨by decide, fun e he => by cases he⟩ hn2 (by decide) hw9) (cwV 0 hts gX4_init_X4_keepNow rfl rfl rfl (by decide +kernel) ⟨Nat.le_of_ble_eq_true rfl, Nat.le_of_ble_eq_true rfl⟩) hP hD (va_recv hK hP (ci := 4) (q0 := 0) rfl rfl) rfl rfl (Nat.le_of_ble_eq_true rfl) dX4_init_113 ⟨Nat.le_of_ble_eq_true rfl, Nat.le_of_ble_eq_true rfl⟩) hD hS hA (fun w1 h => h.ad2 hw9) (fun w1 H locs hpo hP hD hS => ?_)
    have hw8 := hpo
    have hkp : kp (fun _ => 0, 0, 0, [], []) = x00 := rfl
    rw [hkp, hnn] at hw8
    exact W.vret hx hb hr (fun t9 ht9 _ => ⟨⟨w1, rfl, ⟨hD, (fun i => match i with | 0 => a0 | 1 => q_1 | 2 => q_2 | 3 => q_3 | 4 => q_4 | 5 => q_5 | 6 => q_6 | 7 => q_7 | 8 => q_8 | 9 => q_9 | _ => q_10), rfl, hw8⟩, by show va_P D vwCl _ t9.heap; rw [ht9]; exact hP⟩, hS.F ht9⟩) hS.2.2 dX4_init_116
  refine lv_aload_n hx hb dX4_init_90 rfl (lv_at hl 0 rfl) ?_
  refine lv_iload_n hx hb dX4_init_91 rfl (lv_at hl 1 rfl) ?_
  refine lv_iconst (v := nI 1) hx hb dX4_init_92 (by decide) ?_
  refine lv_icmp_lt (tgt := 107) hx hb dX4_init_93 (by decide) (fun c_11 => ?_) (fun c_11 => ?_)
  · have e9 : (64 : Nat) = nOf z := by unfold nOf; rw [if_neg (fun q => absurd ((iz_lt_r (a := 1) (by omega)).mp c_11) (by omega))]
    refine lv_bipush (v := nI 64) hx hb dX4_init_107 (by decide) ?_
    exact rest 64 (by omega) (by omega) e9
  · have h1 : 1 ≤ z.toInt := by have := mt (iz_lt_r (a := 1) (by omega)).mpr c_11; omega
    refine lv_iload_n hx hb dX4_init_96 rfl (lv_at hl 1 rfl) ?_
    refine lv_sipush (v := nI 256) hx hb dX4_init_97 (by decide) ?_
    refine lv_icmp_gt (tgt := 107) hx hb dX4_init_100 (by decide) (fun c_12 => ?_) (fun c_12 => ?_)
    · have e9 : (64 : Nat) = nOf z := by unfold nOf; rw [if_neg (fun q => absurd ((iz_lt_l (a := 256) (by omega)).mp c_12) (by omega))]
      refine lv_bipush (v := nI 64) hx hb dX4_init_107 (by decide) ?_
      exact rest 64 (by omega) (by omega) e9
    · have h2 : z.toInt ≤ 256 := by have := mt (iz_lt_l (a := 256) (by omega)).mpr c_12; omega
      refine lv_iload_n hx hb dX4_init_103 rfl (lv_at hl 1 rfl) ?_
      refine lv_goto (tgt := 109) hx hb dX4_init_104 (by decide) ?_
      obtain ⟨u, hu8, rfl, hu⟩ := iz_nat (z := z) (by omega)
      exact rest u (by omega) (by omega) (by unfold nOf; rw [if_pos ⟨h1, h2⟩, tn_nI hu8])

end X4i
