/-! the law: keep, sum, the loop, the start -/
set_option maxRecDepth 100000 in
set_option maxHeartbeats 4000000 in
/-- case 5: keep -/
theorem law_5 {p : Program} {l : Launch} {e : Env} {m : MethodId} {c : Code} {s : State} {below : List Frame} {meth : Method} {b L : Nat} {xs : Nat → Int32} {D : va_G} {cI cF cQ cJ cD : ClassId} {aT : Nat} {o u : Nat → Nat} {aJ aD n j ev : Nat} {R : List dI} {x y : St} {th : Int32} {wC wM : va_W} {fJ : Nat → Int64} {fD : Nat → UInt64} {H : Heap} {locs : List Loc} {ls : Array Slot} (h0 : lwC p l m c s b L xs D cI cF cQ cJ cD aT) (hj : j ≤ 511) (hi : 1 + 6 * j + 6 ≤ L) (hN : lwN p l e m c s below meth b D cI cF cQ cJ cD o u aJ aD n j) (hI : LI cI cF cQ o u n j ev R x y th wC wM) (hP : va_P D vwCl (eJ cJ aJ fJ :: eD cD aD fD :: (wC ++ wM)) H) (hD : va_D (lwA s) (eJ cJ aJ fJ :: eD cD aD fD :: (wC ++ wM))) (hS : va_S (lwA s) s.heap H locs) (hl : lv_has ls 10 (lwL b (o 0) (u 0) aJ aD (1 + 6 * j))) : W p l e room_1 s m #[Value.ref b] below meth c H locs (46 + 8 * j) (13635 + 48 * j) (lw_Z below #[Value.ref b] s) (F0 m 536 ls []) := by
  obtain ⟨hC, hKJ, hX, hbl, hL⟩ := id h0
  have hx := hC.1.1
  have hb := hC.1.2.1
  have hml := hC.1.2.2.1
  have hown : s.vm.findClass RL = some m.cls := hC.1.2.2.2.1
  have hts := hC.1.2.2.2.2
  have hA := hC.2.1
  have hK := hC.2.2.2.1
  have hbA : ¬ lwA s b := Nat.not_le.mpr hbl
  obtain ⟨hwC, hwM, hR, hOk, hs, hT⟩ := id hI
  obtain ⟨M, rfl, hLR⟩ := rel_eq hR
  have hOkY := hR.ok hOk
  have hn9 := hOk.1.2
  have hL9 : rIn n (sL x) := hOk.2.2.2.2.2.1
  have hT9 : sT x ≤ 64 * 511 := by omega
  have hl : lv_has ls 10 [(5, .int (nI (1 + 6 * j))), (0, .ref b), (1, .ref (o 0)), (2, .ref (u 0)), (3, .ref aJ), (4, .ref aD)] := hl
  refine lv_aload_n hx hb dL_law_536 rfl (lv_at hl 2 rfl) ?_
  have hPc : va_P D vwCl wC H := lz_cutP (lw_pC (eJ cJ aJ fJ) (eD cD aD fD) wC wM) hP
  have hDc : va_D (lwA s) wC := lz_cutD (lw_pC (eJ cJ aJ fJ) (eD cD aD fD) wC wM) hD
  obtain ⟨wD, wR, wS, -, -, -, hwe⟩ := id hwC
  have hPr := id hPc
  rw [hwe] at hPr
  refine lz_cMi (w2 := fun w1 => w1 ++ ((eJ cJ aJ fJ) :: (eD cD aD fD) :: wM)) (lz_runV (C := RX3) (As := []) (rest := []) hC hS hl (c_X3_keep hwC hOk hs) (cwV 0 hts gL_law_X3_keep rfl rfl rfl (by decide +kernel) ⟨Nat.le_of_ble_eq_true rfl, Nat.le_of_ble_eq_true rfl⟩) hPc hDc (va_recv hK hPr (ci := 3) (q0 := 0) rfl rfl) rfl rfl (Nat.le_of_ble_eq_true rfl) dL_law_537 ⟨by show _ ≤ 601024; omega, by show _ ≤ 7293000; omega⟩) hP hD hS hA (lw_pC (eJ cJ aJ fJ) (eD cD aD fD) wC wM) (fun r w1 h => h.2.ad2 hwC) (fun _ => List.Perm.refl _) (fun r9 wC9 H locs hpo hP hD hS => ?_)
  obtain ⟨rfl, hwC2⟩ := hpo
  replace hP := lz_permP (lw_pC (eJ cJ aJ fJ) (eD cD aD fD) wC9 wM).symm hP
  replace hD := lz_permD (lw_pC (eJ cJ aJ fJ) (eD cD aD fD) wC9 wM).symm hD
  refine lv_aload_n hx hb dL_law_540 rfl (lv_at hl 3 rfl) ?_
  have hPm : va_P D vwCl wM H := lz_cutP (lw_pM (eJ cJ aJ fJ) (eD cD aD fD) wC9 wM) hP
  have hDm : va_D (lwA s) wM := lz_cutD (lw_pM (eJ cJ aJ fJ) (eD cD aD fD) wC9 wM) hD
  obtain ⟨r1, r2, r3, f1, f2, f3, f4, k1, kc, -, -, -, hwe9⟩ := id hwM
  have hPr9 := id hPm
  rw [hwe9] at hPr9
  refine lz_cMi (w2 := fun w1 => w1 ++ ((eJ cJ aJ fJ) :: (eD cD aD fD) :: wC9)) (lz_runV (C := RX4) (As := []) (rest := [.int (nI (sS (kp x)).length)]) hC hS hl (c_X4_keep hwM hOkY) (cwV 0 hts gL_law_X4_keep rfl rfl rfl (by decide +kernel) ⟨Nat.le_of_ble_eq_true rfl, Nat.le_of_ble_eq_true rfl⟩) hPm hDm (va_recv hK hPr9 (ci := 4) (q0 := 0) rfl rfl) rfl rfl (Nat.le_of_ble_eq_true rfl) dL_law_541 ⟨by show _ ≤ 601024; omega, by show _ ≤ 7293000; omega⟩) hP hD hS hA (lw_pM (eJ cJ aJ fJ) (eD cD aD fD) wC9 wM) (fun r w1 h => h.2.ad2 hwM) (fun _ => List.Perm.refl _) (fun r8 wM9 H locs hpo hP hD hS => ?_)
  obtain ⟨hr8, hwM2⟩ := hpo
  replace hP := lz_permP (lw_pM (eJ cJ aJ fJ) (eD cD aD fD) wC9 wM9).symm hP
  replace hD := lz_permD (lw_pM (eJ cJ aJ fJ) (eD cD aD fD) wC9 wM9).symm hD
  have hrk := hR.kp
  refine lv_icmp_eq (tgt := 1310) hx hb dL_law_544 (by decide) (fun c_1 => ?_) (fun c_1 => absurd (by rw [hr8, hrk.2.2.2.1]) c_1)
  refine W.widen (k := 46 + 8 * j + 8) (n := 13635 + 48 * j + 48) (by show 46 + 8 * j + 0 + 0 ≤ _; omega) (by show 13635 + 48 * j + 0 + 0 ≤ _; omega) ?_
  exact hN ev R (kp x) _ _ wC9 wM9 fJ fD ⟨hwC2, hwM2, hrk, kp_ok hOk, kpL_srt hs, by show sT x ≤ _; omega⟩ H locs ls hP hD hS hl

set_option maxRecDepth 100000 in
set_option maxHeartbeats 4000000 in
/-- case 16: sum -/
theorem law_16 {p : Program} {l : Launch} {e : Env} {m : MethodId} {c : Code} {s : State} {below : List Frame} {meth : Method} {b L : Nat} {xs : Nat → Int32} {D : va_G} {cI cF cQ cJ cD : ClassId} {aT : Nat} {o u : Nat → Nat} {aJ aD n j ev : Nat} {R : List dI} {x y : St} {th : Int32} {wC wM : va_W} {fJ : Nat → Int64} {fD : Nat → UInt64} {H : Heap} {locs : List Loc} {ls : Array Slot} (h0 : lwC p l m c s b L xs D cI cF cQ cJ cD aT) (hj : j ≤ 511) (hi : 1 + 6 * j + 6 ≤ L) (hN : lwN p l e m c s below meth b D cI cF cQ cJ cD o u aJ aD n j) (hI : LI cI cF cQ o u n j ev R x y th wC wM) (hP : va_P D vwCl (eJ cJ aJ fJ :: eD cD aD fD :: (wC ++ wM)) H) (hD : va_D (lwA s) (eJ cJ aJ fJ :: eD cD aD fD :: (wC ++ wM))) (hS : va_S (lwA s) s.heap H locs) (hl : lv_has ls 10 (lwL b (o 0) (u 0) aJ aD (1 + 6 * j))) : W p l e room_1 s m #[Value.ref b] below meth c H locs (46 + 8 * j) (13635 + 48 * j) (lw_Z below #[Value.ref b] s) (F0 m 1267 ls []) := by
  obtain ⟨hC, hKJ, hX, hbl, hL⟩ := id h0
  have hx := hC.1.1
  have hb := hC.1.2.1
  have hml := hC.1.2.2.1
  have hown : s.vm.findClass RL = some m.cls := hC.1.2.2.2.1
  have hts := hC.1.2.2.2.2
  have hA := hC.2.1
  have hK := hC.2.2.2.1
  have hbA : ¬ lwA s b := Nat.not_le.mpr hbl
  obtain ⟨hwC, hwM, hR, hOk, hs, hT⟩ := id hI
  obtain ⟨M, rfl, hLR⟩ := rel_eq hR
  have hOkY := hR.ok hOk
  have hn9 := hOk.1.2
  have hL9 : rIn n (sL x) := hOk.2.2.2.2.2.1
  have hT9 : sT x ≤ 64 * 511 := by omega
  have hl : lv_has ls 10 [(5, .int (nI (1 + 6 * j))), (0, .ref b), (1, .ref (o 0)), (2, .ref (u 0)), (3, .ref aJ), (4, .ref aD)] := hl
  refine lv_aload_n hx hb dL_law_1267 rfl (lv_at hl 2 rfl) ?_
  have hPc : va_P D vwCl wC H := lz_cutP (lw_pC (eJ cJ aJ fJ) (eD cD aD fD) wC wM) hP
  have hDc : va_D (lwA s) wC := lz_cutD (lw_pC (eJ cJ aJ fJ) (eD cD aD fD) wC wM) hD
  obtain ⟨wD, wR, wS, -, -, -, hwe⟩ := id hwC
  have hPr := id hPc
  rw [hwe] at hPr
  refine vp_callSf (lz_runV (C := RX3) (As := []) (rest := []) hC hS hl (c_X3_sum hwC hn9 hOk.2.2.2.1) (cwV 0 hts gL_law_X3_sum rfl rfl rfl (by decide +kernel) ⟨Nat.le_of_ble_eq_true rfl, Nat.le_of_ble_eq_true rfl⟩) hPc hDc (va_recv hK hPr (ci := 3) (q0 := 0) rfl rfl) rfl rfl (Nat.le_of_ble_eq_true rfl) dL_law_1268 ⟨by show _ ≤ 601024; omega, by show _ ≤ 7293000; omega⟩).run (fun r9 hr9 => ?_)
  subst hr9
  have hnn := smc_N (c := sc x) hOk.2.2.2.1 n
  refine lv_f2d hx hb dL_law_1271 (fl_f2dN hnn) ?_
  refine lv_dstore (lv' := [(6, .double (FP.f2d (smc (sc x) n))), (5, .int (nI (1 + 6 * j))), (0, .ref b), (1, .ref (o 0)), (2, .ref (u 0)), (3, .ref aJ), (4, .ref aD)]) hx hb dL_law_1272 hl (by decide) rfl (fun ls hl => ?_)
  refine lv_aload_n hx hb dL_law_1274 rfl (lv_at hl 4 rfl) ?_
  have hPm : va_P D vwCl wM H := lz_cutP (lw_pM (eJ cJ aJ fJ) (eD cD aD fD) wC wM) hP
  have hDm : va_D (lwA s) wM := lz_cutD (lw_pM (eJ cJ aJ fJ) (eD cD aD fD) wC wM) hD
  obtain ⟨r1, r2, r3, f1, f2, f3, f4, k1, kc, -, -, -, hwe9⟩ := id hwM
  have hPr9 := id hPm
  rw [hwe9] at hPr9
  refine lz_cMf (w2 := fun w1 => w1 ++ ((eJ cJ aJ fJ) :: (eD cD aD fD) :: wC)) (lz_runV (C := RX4) (As := []) (rest := []) hC hS hl (c_X4_sum hwM hOkY) (cwV 0 hts gL_law_X4_sum rfl rfl rfl (by decide +kernel) ⟨Nat.le_of_ble_eq_true rfl, Nat.le_of_ble_eq_true rfl⟩) hPm hDm (va_recv hK hPr9 (ci := 4) (q0 := 0) rfl rfl) rfl rfl (Nat.le_of_ble_eq_true rfl) dL_law_1275 ⟨by show _ ≤ 601024; omega, by show _ ≤ 7293000; omega⟩) hP hD hS hA (lw_pM (eJ cJ aJ fJ) (eD cD aD fD) wC wM) (fun r w1 h => h.2.ad2 hwM) (fun _ => List.Perm.refl _) (fun r8 wM9 H locs hpo hP hD hS => ?_)
  obtain ⟨hr8, hwM2⟩ := hpo
  have hr8 : r8 = smc (sc x) n := hr8
  subst hr8
  replace hP := lz_permP (lw_pM (eJ cJ aJ fJ) (eD cD aD fD) wC wM9).symm hP
  replace hD := lz_permD (lw_pM (eJ cJ aJ fJ) (eD cD aD fD) wC wM9).symm hD
  refine lv_f2d hx hb dL_law_1278 (fl_f2dN hnn) ?_
  refine lv_dstore (lv' := [(8, .double (FP.f2d (smc (sc x) n))), (6, .double (FP.f2d (smc (sc x) n))), (5, .int (nI (1 + 6 * j))), (0, .ref b), (1, .ref (o 0)), (2, .ref (u 0)), (3, .ref aJ), (4, .ref aD)]) hx hb dL_law_1279 hl (by decide) rfl (fun ls hl => ?_)
  refine lv_dload hx hb dL_law_1281 (lv_at hl 1 rfl) ?_
  refine lv_dload hx hb dL_law_1283 (lv_at hl 0 rfl) ?_
  refine lv_dcmp hx hb dL_law_1285 ?_
  refine lv_if_eq (tgt := 1307) hx hb dL_law_1286 (by decide) (fun c_1 => ?_) (fun c_1 => absurd (by rw [fl_dself hnn]; decide) c_1)
  refine lv_goto (tgt := 1310) hx hb dL_law_1307 (by decide) ?_
  refine W.widen (k := 46 + 8 * j + 8) (n := 13635 + 48 * j + 48) (by show 46 + 8 * j + 0 ≤ _; omega) (by show 13635 + 48 * j + 0 ≤ _; omega) ?_
  exact hN ev R x _ _ wC wM9 fJ fD ⟨hwC, hwM2, hR, hOk, hs, by omega⟩ H locs ls hP hD hS (lv_sub hl [2, 3, 4, 5, 6, 7] rfl)

theorem iz_lt_r_ (a b : Int32) : a < b ↔ a.toInt < b.toInt := Int32.lt_iff_toInt_lt
set_option maxRecDepth 100000 in
set_option maxHeartbeats 4000000 in
/-- the law's loop -/
theorem law_loop {p : Program} {l : Launch} {e : Env} {m : MethodId} {c : Code} {s : State} {below : List Frame} {meth : Method} {b L : Nat} {xs : Nat → Int32} {D : va_G} {cI cF cQ cJ cD : ClassId} {aT : Nat} {o u : Nat → Nat} {aJ aD n : Nat} (h0 : lwC p l m c s b L xs D cI cF cQ cJ cD aT) (hr : meth.sig.returnType = ret) (hlk : meth.locks = false) : ∀ (r j : Nat), L ≤ 1 + 6 * j + 6 * r + 5 → j ≤ 512 → ∀ (ev : Nat) (R : List dI) (x y : St) (th : Int32) (wC wM : va_W) (fJ : Nat → Int64) (fD : Nat → UInt64), LI cI cF cQ o u n j ev R x y th wC wM → ∀ (H : Heap) (locs : List Loc) (ls : Array Slot), va_P D vwCl (eJ cJ aJ fJ :: eD cD aD fD :: (wC ++ wM)) H → va_D (lwA s) (eJ cJ aJ fJ :: eD cD aD fD :: (wC ++ wM)) → va_S (lwA s) s.heap H locs → lv_has ls 10 (lwL b (o 0) (u 0) aJ aD (1 + 6 * j)) → W p l e room_1 s m #[Value.ref b] below meth c H locs (46 + 8 * j) (13635 + 48 * j) (lw_Z below #[Value.ref b] s) (F0 m 38 ls []) := by
  obtain ⟨hC, hKJ, hX, hbl, hL⟩ := id h0
  have hx := hC.1.1
  have hb := hC.1.2.1
  have hbA : ¬ lwA s b := Nat.not_le.mpr hbl
  intro r
  induction r with
  | zero =>
    intro j h1 hj ev R x y th wC wM fJ fD hI H locs ls hP hD hS hl
    have hl : lv_has ls 10 [(5, .int (nI (1 + 6 * j))), (0, .ref b), (1, .ref (o 0)), (2, .ref (u 0)), (3, .ref aJ), (4, .ref aD)] := hl
    refine lv_iload hx hb dL_law_38 (lv_at hl 0 rfl) ?_
    refine lv_aload_n hx hb dL_law_40 rfl (lv_at hl 1 rfl) ?_
    refine va_slen hx hb hX hbl hbA hS dL_law_41 ?_
    refine lv_bipush (v := nI 6) hx hb dL_law_42 (by decide) ?_
    refine lv_isub hx hb dL_law_44 ?_
    have hL6 : (nI L - nI 6).toInt = (L : Int) - 6 := by rw [Int32.toInt_sub, nI_toInt (by omega), nI_toInt (by omega)]; exact Int.bmod_eq_of_le (by omega) (by omega)
    refine lv_icmp_gt (tgt := 1316) hx hb dL_law_45 (by decide) (fun c1 => ?_) (fun c1 => absurd ((iz_lt_r_ (nI L - nI 6) _).mpr (by rw [hL6, nI_toInt (by omega)]; omega)) c1)
    refine lv_iconst (v := nI 1) hx hb dL_law_1316 (by decide) ?_
    refine lz_i (y := 1) (by rfl) ?_
    refine va_forget (fun q hq => hS.2.2 q hq) ?_
    refine W.widen (k := 601024) (n := 7293000) (by omega) (by omega) ?_
    exact lw_ret hx hb hr hlk dL_law_1317
  | succ r ih =>
    intro j h1 hj ev R x y th wC wM fJ fD hI H locs ls hP hD hS hl
    have hl : lv_has ls 10 [(5, .int (nI (1 + 6 * j))), (0, .ref b), (1, .ref (o 0)), (2, .ref (u 0)), (3, .ref aJ), (4, .ref aD)] := hl
    refine lv_iload hx hb dL_law_38 (lv_at hl 0 rfl) ?_
    refine lv_aload_n hx hb dL_law_40 rfl (lv_at hl 1 rfl) ?_
    refine va_slen hx hb hX hbl hbA hS dL_law_41 ?_
    refine lv_bipush (v := nI 6) hx hb dL_law_42 (by decide) ?_
    refine lv_isub hx hb dL_law_44 ?_
    have hL6 : (nI L - nI 6).toInt = (L : Int) - 6 := by rw [Int32.toInt_sub, nI_toInt (by omega), nI_toInt (by omega)]; exact Int.bmod_eq_of_le (by omega) (by omega)
    refine lv_icmp_gt (tgt := 1316) hx hb dL_law_45 (by decide) (fun c_1 => ?_) (fun c_1 => ?_)
    · refine lv_iconst (v := nI 1) hx hb dL_law_1316 (by decide) ?_
      refine lz_i (y := 1) (by rfl) ?_
      refine va_forget (fun q hq => hS.2.2 q hq) ?_
      refine W.widen (k := 601024) (n := 7293000) (by omega) (by omega) ?_
      exact lw_ret hx hb hr hlk dL_law_1317
    · have hi : 1 + 6 * j + 6 ≤ L := by have h9 := mt (iz_lt_r_ (nI L - nI 6) _).mpr c_1; rw [hL6, nI_toInt (by omega)] at h9; omega
      have hj2 : j ≤ 511 := by omega
      have hN : lwN p l e m c s below meth b D cI cF cQ cJ cD o u aJ aD n j := by
        intro ev R x y th wC wM fJ fD hI H locs ls hP hD hS hl
        have hl : lv_has ls 10 [(5, .int (nI (1 + 6 * j))), (0, .ref b), (1, .ref (o 0)), (2, .ref (u 0)), (3, .ref aJ), (4, .ref aD)] := hl
        refine lv_iinc (v := nI (1 + 6 * (j + 1))) (lv' := [(5, .int (nI (1 + 6 * (j + 1)))), (0, .ref b), (1, .ref (o 0)), (2, .ref (u 0)), (3, .ref aJ), (4, .ref aD)]) hx hb dL_law_1310 hl (k := 0) rfl (by show nI (1 + 6 * j) + nI 6 = _; rw [nI_add]; congr 1) (by decide) rfl (fun ls hl => ?_)
        refine lv_goto (tgt := 38) hx hb dL_law_1313 (by decide) ?_
        refine W.widen (k := 46 + 8 * (j + 1)) (n := 13635 + 48 * (j + 1)) (by omega) (by omega) ?_
        exact ih (j + 1) (by omega) (by omega) ev R x y th wC wM fJ fD hI H locs ls hP hD hS hl
      refine lv_aload_n hx hb dL_law_48 rfl (lv_at hl 1 rfl) ?_
      refine lv_iload hx hb dL_law_49 (lv_at hl 0 rfl) ?_
      refine lz_sld hx hb hX hbl hbA hS (k := (1 + 6 * j)) (by omega) (by omega) dL_law_51 ?_
      refine lv_bipush (v := nI 31) hx hb dL_law_52 (by decide) ?_
      refine lv_iand hx hb dL_law_54 ?_
      generalize xs (1 + 6 * j) &&& nI 31 = z9
      by_cases hz : z9.toInt < 0 ∨ 16 < z9.toInt
      · refine lv_tableOut (tgt := 1310) hx hb dL_law_55 hz (by decide) ?_
        refine W.widen (k := 46 + 8 * j + 8) (n := 13635 + 48 * j + 48) (by omega) (by omega) ?_
        obtain ⟨q1, q2, q3, q4, q5, q6⟩ := hI
        exact hN ev R x y th wC wM fJ fD ⟨q1, q2, q3, q4, q5, by omega⟩ H locs ls hP hD hS hl
      have hv : z9.toInt = 0 ∨ z9.toInt = 1 ∨ z9.toInt = 2 ∨ z9.toInt = 3 ∨ z9.toInt = 4 ∨ z9.toInt = 5 ∨ z9.toInt = 6 ∨ z9.toInt = 7 ∨ z9.toInt = 8 ∨ z9.toInt = 9 ∨ z9.toInt = 10 ∨ z9.toInt = 11 ∨ z9.toInt = 12 ∨ z9.toInt = 13 ∨ z9.toInt = 14 ∨ z9.toInt = 15 ∨ z9.toInt = 16 := by omega
      rcases hv with hv | hv | hv | hv | hv | hv | hv | hv | hv | hv | hv | hv | hv | hv | hv | hv | hv
      · refine lv_tableIn (tgt := 136) (off := 81) hx hb dL_law_55 (by rw [hv]; decide) (by rw [hv]; decide) (by rw [hv]; rfl) (by decide) ?_
        exact law_0 h0 hj2 hi hN hI hP hD hS hl
      · refine lv_tableIn (tgt := 224) (off := 169) hx hb dL_law_55 (by rw [hv]; decide) (by rw [hv]; decide) (by rw [hv]; rfl) (by decide) ?_
        exact law_1 h0 hj2 hi hN hI hP hD hS hl
      · refine lv_tableIn (tgt := 280) (off := 225) hx hb dL_law_55 (by rw [hv]; decide) (by rw [hv]; decide) (by rw [hv]; rfl) (by decide) ?_
        exact law_2 h0 hj2 hi hN hI hP hD hS hl
      · refine lv_tableIn (tgt := 368) (off := 313) hx hb dL_law_55 (by rw [hv]; decide) (by rw [hv]; decide) (by rw [hv]; rfl) (by decide) ?_
        exact law_3 h0 hj2 hi hN hI hP hD hS hl
      · refine lv_tableIn (tgt := 480) (off := 425) hx hb dL_law_55 (by rw [hv]; decide) (by rw [hv]; decide) (by rw [hv]; rfl) (by decide) ?_
        exact law_4 h0 hj2 hi hN hI hP hD hS hl
      · refine lv_tableIn (tgt := 536) (off := 481) hx hb dL_law_55 (by rw [hv]; decide) (by rw [hv]; decide) (by rw [hv]; rfl) (by decide) ?_
        exact law_5 h0 hj2 hi hN hI hP hD hS hl
      · refine lv_tableIn (tgt := 549) (off := 494) hx hb dL_law_55 (by rw [hv]; decide) (by rw [hv]; decide) (by rw [hv]; rfl) (by decide) ?_
        exact law_6 h0 hj2 hi hN hI hP hD hS hl
      · refine lv_tableIn (tgt := 605) (off := 550) hx hb dL_law_55 (by rw [hv]; decide) (by rw [hv]; decide) (by rw [hv]; rfl) (by decide) ?_
        exact law_7 h0 hj2 hi hN hI hP hD hS hl
      · refine lv_tableIn (tgt := 661) (off := 606) hx hb dL_law_55 (by rw [hv]; decide) (by rw [hv]; decide) (by rw [hv]; rfl) (by decide) ?_
        exact law_8 h0 hj2 hi hN hI hP hD hS hl
      · refine lv_tableIn (tgt := 761) (off := 706) hx hb dL_law_55 (by rw [hv]; decide) (by rw [hv]; decide) (by rw [hv]; rfl) (by decide) ?_
        exact law_9 h0 hj2 hi hN hI hP hD hS hl
      · refine lv_tableIn (tgt := 839) (off := 784) hx hb dL_law_55 (by rw [hv]; decide) (by rw [hv]; decide) (by rw [hv]; rfl) (by decide) ?_
        exact law_10 h0 hj2 hi hN hI hP hD hS hl
      · refine lv_tableIn (tgt := 929) (off := 874) hx hb dL_law_55 (by rw [hv]; decide) (by rw [hv]; decide) (by rw [hv]; rfl) (by decide) ?_
        exact law_11 h0 hj2 hi hN hI hP hD hS hl
      · refine lv_tableIn (tgt := 985) (off := 930) hx hb dL_law_55 (by rw [hv]; decide) (by rw [hv]; decide) (by rw [hv]; rfl) (by decide) ?_
        exact law_12 h0 hj2 hi hN hI hP hD hS hl
      · refine lv_tableIn (tgt := 1041) (off := 986) hx hb dL_law_55 (by rw [hv]; decide) (by rw [hv]; decide) (by rw [hv]; rfl) (by decide) ?_
        exact law_13 h0 hj2 hi hN hI hP hD hS hl
      · refine lv_tableIn (tgt := 1121) (off := 1066) hx hb dL_law_55 (by rw [hv]; decide) (by rw [hv]; decide) (by rw [hv]; rfl) (by decide) ?_
        exact law_14 h0 hj2 hi hN hI hP hD hS hl
      · refine lv_tableIn (tgt := 1211) (off := 1156) hx hb dL_law_55 (by rw [hv]; decide) (by rw [hv]; decide) (by rw [hv]; rfl) (by decide) ?_
        exact law_15 h0 hj2 hi hN hI hP hD hS hl
      · refine lv_tableIn (tgt := 1267) (off := 1212) hx hb dL_law_55 (by rw [hv]; decide) (by rw [hv]; decide) (by rw [hv]; rfl) (by decide) ?_
        exact law_16 h0 hj2 hi hN hI hP hD hS hl

