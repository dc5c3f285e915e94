/-! the law's cases -/
set_option maxRecDepth 100000 in
set_option maxHeartbeats 4000000 in
/-- case 0: drift -/
theorem law_0 {p : Program} {l : Launch} {e : Env} {m : MethodId} {c : Code} {s : State} {below : List Frame} {meth : Method} {b L : Nat} {xs : Nat → Int32} {D : va_G} {cI cF cQ cJ cD : ClassId} {aT : Nat} {o u : Nat → Nat} {aJ aD n j ev : Nat} {R : List dI} {x y : St} {th : Int32} {wC wM : va_W} {fJ : Nat → Int64} {fD : Nat → UInt64} {H : Heap} {locs : List Loc} {ls : Array Slot} (h0 : lwC p l m c s b L xs D cI cF cQ cJ cD aT) (hj : j ≤ 511) (hi : 1 + 6 * j + 6 ≤ L) (hN : lwN p l e m c s below meth b D cI cF cQ cJ cD o u aJ aD n j) (hI : LI cI cF cQ o u n j ev R x y th wC wM) (hP : va_P D vwCl (eJ cJ aJ fJ :: eD cD aD fD :: (wC ++ wM)) H) (hD : va_D (lwA s) (eJ cJ aJ fJ :: eD cD aD fD :: (wC ++ wM))) (hS : va_S (lwA s) s.heap H locs) (hl : lv_has ls 10 (lwL b (o 0) (u 0) aJ aD (1 + 6 * j))) : W p l e room_1 s m #[Value.ref b] below meth c H locs (46 + 8 * j) (13635 + 48 * j) (lw_Z below #[Value.ref b] s) (F0 m 136 ls []) := by
  obtain ⟨hC, hKJ, hX, hbl, hL⟩ := id h0
  have hx := hC.1.1
  have hb := hC.1.2.1
  have hml := hC.1.2.2.1
  have hown : s.vm.findClass RL = some m.cls := hC.1.2.2.2.1
  have hts := hC.1.2.2.2.2
  have hA := hC.2.1
  have hK := hC.2.2.2.1
  have hbA : ¬ lwA s b := Nat.not_le.mpr hbl
  obtain ⟨hwC, hwM, hR, hOk, hs, hT⟩ := id hI
  obtain ⟨M, rfl, hLR⟩ := rel_eq hR
  have hOkY := hR.ok hOk
  have hn9 := hOk.1.2
  have hL9 : rIn n (sL x) := hOk.2.2.2.2.2.1
  have hT9 : sT x ≤ 64 * 511 := by omega
  have hl : lv_has ls 10 [(5, .int (nI (1 + 6 * j))), (0, .ref b), (1, .ref (o 0)), (2, .ref (u 0)), (3, .ref aJ), (4, .ref aD)] := hl
  refine lv_aload_n hx hb dL_law_136 rfl (lv_at hl 2 rfl) ?_
  refine lv_aload_n hx hb dL_law_137 rfl (lv_at hl 1 rfl) ?_
  refine lv_iload hx hb dL_law_138 (lv_at hl 0 rfl) ?_
  refine lv_iconst (v := nI 1) hx hb dL_law_140 (by decide) ?_
  refine lv_iadd hx hb dL_law_141 ?_
  refine lz_i (nI_add _ _) ?_
  refine lz_sld hx hb hX hbl hbA hS (k := ((1 + 6 * j) + 1)) (by omega) (by omega) dL_law_142 ?_
  refine lv_aload_n hx hb dL_law_143 rfl (lv_at hl 1 rfl) ?_
  refine lv_iload hx hb dL_law_144 (lv_at hl 0 rfl) ?_
  refine lv_iconst (v := nI 2) hx hb dL_law_146 (by decide) ?_
  refine lv_iadd hx hb dL_law_147 ?_
  refine lz_i (nI_add _ _) ?_
  refine lz_sld hx hb hX hbl hbA hS (k := ((1 + 6 * j) + 2)) (by omega) (by omega) dL_law_148 ?_
  refine lv_aload_n hx hb dL_law_149 rfl (lv_at hl 1 rfl) ?_
  refine lv_iload hx hb dL_law_150 (lv_at hl 0 rfl) ?_
  refine lv_iconst (v := nI 3) hx hb dL_law_152 (by decide) ?_
  refine lv_iadd hx hb dL_law_153 ?_
  refine lz_i (nI_add _ _) ?_
  refine lz_sld hx hb hX hbl hbA hS (k := ((1 + 6 * j) + 3)) (by omega) (by omega) dL_law_154 ?_
  refine lv_i2f hx hb dL_law_155 ?_
  refine lv_ldcf (v := c8) hx hb hown (hts (.constantFloat RL 78 (1040187392)) (List.mem_of_getElem? (i := 8) rfl)) dL_law_156 ?_
  refine lv_fmul hx hb dL_law_158 (fl_n32 (fl_mul (i2f_F _) c8_F)) ?_
  refine lv_aload_n hx hb dL_law_159 rfl (lv_at hl 4 rfl) ?_
  have hPc : va_P D vwCl ((eJ cJ aJ fJ) :: wC) H := lz_cutP (lw_pJ (eJ cJ aJ fJ) (eD cD aD fD) wC wM) hP
  have hDc : va_D (lwA s) ((eJ cJ aJ fJ) :: wC) := lz_cutD (lw_pJ (eJ cJ aJ fJ) (eD cD aD fD) wC wM) hD
  refine lz_cMi (w2 := fun w1 => w1 ++ ((eD cD aD fD) :: wM)) (lz_runSH (As := [.ref (o 0), .int (xs ((1 + 6 * j) + 1)), .int (xs ((1 + 6 * j) + 2)), .float (FP.fmul (FP.i2f (xs ((1 + 6 * j) + 3))) c8), .ref aJ]) (rest := []) hC hKJ hS hl (c_L_drift hwC hOk hs) (vx_cwSW 5 hts gL_law_L_drift rfl rfl rfl (by decide +kernel) ⟨Nat.le_of_ble_eq_true rfl, Nat.le_of_ble_eq_true rfl⟩) hPc hDc rfl rfl (Nat.le_of_ble_eq_true rfl) dL_law_160 ⟨by show _ ≤ 601024; omega, by show _ ≤ 7293000; omega⟩) hP hD hS hA (lw_pJ (eJ cJ aJ fJ) (eD cD aD fD) wC wM) (fun r w1 h => by obtain ⟨k, wC9, g, -, -, rfl, h0, h1⟩ := h; exact congrArg (List.cons aJ) ((Nat.eq_zero_or_pos k).elim (fun hk => (h0 hk).2.ad2 hwC) (fun hk => (h1 (by omega)).ad2 hwC))) (fun _ => List.Perm.refl _) (fun r9 w1 H locs hpo hP hD hS => ?_)
  obtain ⟨k9, wC9, g, rfl, hk9, rfl, hk0, hk1⟩ := hpo
  replace hP := lz_permP (lw_pJ (eJ cJ aJ g) (eD cD aD fD) wC9 wM).symm hP
  replace hD := lz_permD (lw_pJ (eJ cJ aJ g) (eD cD aD fD) wC9 wM).symm hD
  refine lv_istore (lv' := [(6, .int (nI k9)), (5, .int (nI (1 + 6 * j))), (0, .ref b), (1, .ref (o 0)), (2, .ref (u 0)), (3, .ref aJ), (4, .ref aD)]) hx hb dL_law_163 hl (by decide) rfl (fun ls hl => ?_)
  refine lv_aload_n hx hb dL_law_165 rfl (lv_at hl 4 rfl) ?_
  refine lv_aload_n hx hb dL_law_166 rfl (lv_at hl 2 rfl) ?_
  refine lv_iload hx hb dL_law_167 (lv_at hl 1 rfl) ?_
  refine lv_iconst (v := nI 1) hx hb dL_law_169 (by decide) ?_
  refine lv_iadd hx hb dL_law_170 ?_
  refine lz_i (nI_add _ _) ?_
  refine lz_sld hx hb hX hbl hbA hS (k := ((1 + 6 * j) + 1)) (by omega) (by omega) dL_law_171 ?_
  refine lv_aload_n hx hb dL_law_172 rfl (lv_at hl 2 rfl) ?_
  refine lv_iload hx hb dL_law_173 (lv_at hl 1 rfl) ?_
  refine lv_iconst (v := nI 2) hx hb dL_law_175 (by decide) ?_
  refine lv_iadd hx hb dL_law_176 ?_
  refine lz_i (nI_add _ _) ?_
  refine lz_sld hx hb hX hbl hbA hS (k := ((1 + 6 * j) + 2)) (by omega) (by omega) dL_law_177 ?_
  refine lv_aload_n hx hb dL_law_178 rfl (lv_at hl 2 rfl) ?_
  refine lv_iload hx hb dL_law_179 (lv_at hl 1 rfl) ?_
  refine lv_iconst (v := nI 3) hx hb dL_law_181 (by decide) ?_
  refine lv_iadd hx hb dL_law_182 ?_
  refine lz_i (nI_add _ _) ?_
  refine lz_sld hx hb hX hbl hbA hS (k := ((1 + 6 * j) + 3)) (by omega) (by omega) dL_law_183 ?_
  refine lv_i2f hx hb dL_law_184 ?_
  refine lv_ldcf (v := c8) hx hb hown (hts (.constantFloat RL 78 (1040187392)) (List.mem_of_getElem? (i := 8) rfl)) dL_law_185 ?_
  refine lv_fmul hx hb dL_law_187 (fl_n32 (fl_mul (i2f_F _) c8_F)) ?_
  have hPm : va_P D vwCl wM H := lz_cutP (lw_pM (eJ cJ aJ g) (eD cD aD fD) wC9 wM) hP
  have hDm : va_D (lwA s) wM := lz_cutD (lw_pM (eJ cJ aJ g) (eD cD aD fD) wC9 wM) hD
  obtain ⟨r1, r2, r3, f1, f2, f3, f4, k1, kc, -, -, -, hwe⟩ := id hwM
  have hPr := id hPm
  rw [hwe] at hPr
  refine lz_cMi (w2 := fun w1 => w1 ++ (eJ cJ aJ g :: eD cD aD fD :: wC9)) (lz_runV (C := RX4) (As := [.int (xs ((1 + 6 * j) + 1)), .int (xs ((1 + 6 * j) + 2)), .float (FP.fmul (FP.i2f (xs ((1 + 6 * j) + 3))) c8)]) (rest := []) hC hS hl (c_X4_drift hwM hOkY) (cwV 3 hts gL_law_X4_drift rfl rfl rfl (by decide +kernel) ⟨Nat.le_of_ble_eq_true rfl, Nat.le_of_ble_eq_true rfl⟩) hPm hDm (va_recv hK hPr (ci := 4) (q0 := 0) rfl rfl) rfl rfl (Nat.le_of_ble_eq_true rfl) dL_law_188 ⟨by show _ ≤ 601024; omega, by show _ ≤ 7293000; omega⟩) hP hD hS hA (lw_pM (eJ cJ aJ g) (eD cD aD fD) wC9 wM) (fun r w1 h => by obtain ⟨k, -, h0, h1⟩ := h; exact (Nat.eq_zero_or_pos k).elim (fun hk => (h0 hk).2.ad2 hwM) (fun hk => (h1 (by omega)).ad2 hwM)) (fun _ => List.Perm.refl _) (fun r8 wM9 H locs hpo hP hD hS => ?_)
  obtain ⟨k8, hk8, hm0, hm1⟩ := hpo
  have hk7 : cdR (kn n (xs ((1 + 6 * j) + 1)) ∧ kn n (xs ((1 + 6 * j) + 2))) (inF c4N c4P (FP.fmul (FP.i2f (xs ((1 + 6 * j) + 3))) c8)) (R.length < 64 ∧ sT x = 0 ∧ (sL x).length = 0) k8 := cdR_iff Iff.rfl Iff.rfl (by show (R.length < 64 ∧ sT x = 0 ∧ M.length = 0) ↔ _; rw [hLR.len]) hk8
  have hkk : k9 = k8 := cdR_fun hk9 hk7
  subst hkk
  have hlt := cdR_lt hk9
  replace hP := lz_permP (lw_pM (eJ cJ aJ g) (eD cD aD fD) wC9 wM9).symm hP
  replace hD := lz_permD (lw_pM (eJ cJ aJ g) (eD cD aD fD) wC9 wM9).symm hD
  refine lv_istore (lv' := [(7, .int r8), (6, .int (nI k9)), (5, .int (nI (1 + 6 * j))), (0, .ref b), (1, .ref (o 0)), (2, .ref (u 0)), (3, .ref aJ), (4, .ref aD)]) hx hb dL_law_191 hl (by decide) rfl (fun ls hl => ?_)
  rcases Nat.eq_zero_or_pos k9 with hkz | hkz
  · subst hkz
    obtain ⟨hg, hwC2⟩ := hk0 rfl
    obtain ⟨hr8, hwM2⟩ := hm0 rfl
    have hpp := cdR_0 hk9 rfl
    have hl : lv_has ls 10 [(7, .int r8), (6, .int (nI 0)), (5, .int (nI (1 + 6 * j))), (0, .ref b), (1, .ref (o 0)), (2, .ref (u 0)), (3, .ref aJ), (4, .ref aD)] := hl
    refine lv_aload_n hx hb dL_law_193 rfl (lv_at hl 5 rfl) ?_
    have hPm : va_P D vwCl wM9 H := lz_cutP (lw_pM (eJ cJ aJ g) (eD cD aD fD) wC9 wM9) hP
    have hDm : va_D (lwA s) wM9 := lz_cutD (lw_pM (eJ cJ aJ g) (eD cD aD fD) wC9 wM9) hD
    obtain ⟨r1, r2, r3, f1, f2, f3, f4, k1, kc, -, -, -, hwe2⟩ := id hwM2
    have hPr := id hPm
    rw [hwe2] at hPr
    refine vp_callSi (lz_runV (C := RX4) (As := []) (rest := []) hC hS hl (c_X4_thrown hwM2) (cwV 0 hts gL_law_X4_thrown rfl rfl rfl (by decide +kernel) ⟨Nat.le_of_ble_eq_true rfl, Nat.le_of_ble_eq_true rfl⟩) hPm hDm (va_recv hK hPr (ci := 4) (q0 := 0) rfl rfl) rfl rfl (Nat.le_of_ble_eq_true rfl) dL_law_194 ⟨by show _ ≤ 601024; omega, by show _ ≤ 7293000; omega⟩).run (fun r7 hr7 => ?_)
    subst hr7
    refine lv_iload hx hb dL_law_197 (lv_at hl 1 rfl) ?_
    refine lv_icmp_eq (tgt := 204) hx hb dL_law_199 (by decide) (fun c_1 => ?_) (fun c_1 => absurd rfl c_1)
    refine lv_iload hx hb dL_law_204 (lv_at hl 1 rfl) ?_
    refine lv_if_ne (tgt := 221) hx hb dL_law_206 (by decide) (fun c_2 => absurd nI_0 c_2) (fun c_2 => ?_)
    refine lv_aload_n hx hb dL_law_209 rfl (lv_at hl 6 rfl) ?_
    refine lv_iconst (v := nI 0) hx hb dL_law_210 (by decide) ?_
    refine lz_lald hx hb hKJ hP dL_law_211 ?_
    refine lv_iload hx hb dL_law_212 (lv_at hl 0 rfl) ?_
    refine lv_i2l (v := r8.toInt64) hx hb dL_law_214 rfl ?_
    refine W.lcmp hx hb dL_law_215 ?_
    have hve : r8 = nI (R.length + 1) := hr8.trans rfl
    refine lv_if_eq (tgt := 221) hx hb dL_law_216 (by decide) (fun c_3 => ?_) (fun c_3 => absurd (by rw [hg, hve]; exact lg_self _) c_3)
    refine lv_goto (tgt := 1310) hx hb dL_law_221 (by decide) ?_
    exact hN ev (R ++ [(tn (xs ((1 + 6 * j) + 1)), tn (xs ((1 + 6 * j) + 2)), (FP.fmul (FP.i2f (xs ((1 + 6 * j) + 3))) c8))]) x _ _ wC9 wM9 g fD ⟨hwC2, hwM2, hR, drift_ok hOk hpp.1.1 hpp.1.2 hpp.2.1 hpp.2.2.1, hs, by omega⟩ H locs ls hP hD hS (lv_sub hl [2, 3, 4, 5, 6, 7] rfl)
  · have hwC2 := hk1 (by omega)
    have hwM2 := hm1 (by omega)
    have hl : lv_has ls 10 [(7, .int r8), (6, .int (nI k9)), (5, .int (nI (1 + 6 * j))), (0, .ref b), (1, .ref (o 0)), (2, .ref (u 0)), (3, .ref aJ), (4, .ref aD)] := hl
    refine lv_aload_n hx hb dL_law_193 rfl (lv_at hl 5 rfl) ?_
    have hPm : va_P D vwCl wM9 H := lz_cutP (lw_pM (eJ cJ aJ g) (eD cD aD fD) wC9 wM9) hP
    have hDm : va_D (lwA s) wM9 := lz_cutD (lw_pM (eJ cJ aJ g) (eD cD aD fD) wC9 wM9) hD
    obtain ⟨r1, r2, r3, f1, f2, f3, f4, k1, kc, -, -, -, hwe2⟩ := id hwM2
    have hPr := id hPm
    rw [hwe2] at hPr
    refine vp_callSi (lz_runV (C := RX4) (As := []) (rest := []) hC hS hl (c_X4_thrown hwM2) (cwV 0 hts gL_law_X4_thrown rfl rfl rfl (by decide +kernel) ⟨Nat.le_of_ble_eq_true rfl, Nat.le_of_ble_eq_true rfl⟩) hPm hDm (va_recv hK hPr (ci := 4) (q0 := 0) rfl rfl) rfl rfl (Nat.le_of_ble_eq_true rfl) dL_law_194 ⟨by show _ ≤ 601024; omega, by show _ ≤ 7293000; omega⟩).run (fun r7 hr7 => ?_)
    subst hr7
    refine lv_iload hx hb dL_law_197 (lv_at hl 1 rfl) ?_
    refine lv_icmp_eq (tgt := 204) hx hb dL_law_199 (by decide) (fun c_4 => ?_) (fun c_4 => absurd rfl c_4)
    refine lv_iload hx hb dL_law_204 (lv_at hl 1 rfl) ?_
    refine lv_if_ne (tgt := 221) hx hb dL_law_206 (by decide) (fun c_5 => ?_) (fun c_5 => absurd c_5 (fun q9 => absurd ((iz_ne0 (by omega)).mp q9) (by omega)))
    refine lv_goto (tgt := 1310) hx hb dL_law_221 (by decide) ?_
    exact hN ev R x (stL x M) _ wC9 wM9 g fD ⟨hwC2, hwM2, hR, hOk, hs, by omega⟩ H locs ls hP hD hS (lv_sub hl [2, 3, 4, 5, 6, 7] rfl)

set_option maxRecDepth 100000 in
set_option maxHeartbeats 4000000 in
/-- case 1: every -/
theorem law_1 {p : Program} {l : Launch} {e : Env} {m : MethodId} {c : Code} {s : State} {below : List Frame} {meth : Method} {b L : Nat} {xs : Nat → Int32} {D : va_G} {cI cF cQ cJ cD : ClassId} {aT : Nat} {o u : Nat → Nat} {aJ aD n j ev : Nat} {R : List dI} {x y : St} {th : Int32} {wC wM : va_W} {fJ : Nat → Int64} {fD : Nat → UInt64} {H : Heap} {locs : List Loc} {ls : Array Slot} (h0 : lwC p l m c s b L xs D cI cF cQ cJ cD aT) (hj : j ≤ 511) (hi : 1 + 6 * j + 6 ≤ L) (hN : lwN p l e m c s below meth b D cI cF cQ cJ cD o u aJ aD n j) (hI : LI cI cF cQ o u n j ev R x y th wC wM) (hP : va_P D vwCl (eJ cJ aJ fJ :: eD cD aD fD :: (wC ++ wM)) H) (hD : va_D (lwA s) (eJ cJ aJ fJ :: eD cD aD fD :: (wC ++ wM))) (hS : va_S (lwA s) s.heap H locs) (hl : lv_has ls 10 (lwL b (o 0) (u 0) aJ aD (1 + 6 * j))) : W p l e room_1 s m #[Value.ref b] below meth c H locs (46 + 8 * j) (13635 + 48 * j) (lw_Z below #[Value.ref b] s) (F0 m 224 ls []) := by
  obtain ⟨hC, hKJ, hX, hbl, hL⟩ := id h0
  have hx := hC.1.1
  have hb := hC.1.2.1
  have hml := hC.1.2.2.1
  have hown : s.vm.findClass RL = some m.cls := hC.1.2.2.2.1
  have hts := hC.1.2.2.2.2
  have hA := hC.2.1
  have hK := hC.2.2.2.1
  have hbA : ¬ lwA s b := Nat.not_le.mpr hbl
  obtain ⟨hwC, hwM, hR, hOk, hs, hT⟩ := id hI
  obtain ⟨M, rfl, hLR⟩ := rel_eq hR
  have hOkY := hR.ok hOk
  have hn9 := hOk.1.2
  have hL9 : rIn n (sL x) := hOk.2.2.2.2.2.1
  have hT9 : sT x ≤ 64 * 511 := by omega
  have hl : lv_has ls 10 [(5, .int (nI (1 + 6 * j))), (0, .ref b), (1, .ref (o 0)), (2, .ref (u 0)), (3, .ref aJ), (4, .ref aD)] := hl
  refine lv_aload_n hx hb dL_law_224 rfl (lv_at hl 2 rfl) ?_
  refine lv_aload_n hx hb dL_law_225 rfl (lv_at hl 1 rfl) ?_
  refine lv_iload hx hb dL_law_226 (lv_at hl 0 rfl) ?_
  refine lv_iconst (v := nI 1) hx hb dL_law_228 (by decide) ?_
  refine lv_iadd hx hb dL_law_229 ?_
  refine lz_i (nI_add _ _) ?_
  refine lz_sld hx hb hX hbl hbA hS (k := ((1 + 6 * j) + 1)) (by omega) (by omega) dL_law_230 ?_
  refine lv_aload_n hx hb dL_law_231 rfl (lv_at hl 4 rfl) ?_
  have hPc : va_P D vwCl ((eJ cJ aJ fJ) :: wC) H := lz_cutP (lw_pJ (eJ cJ aJ fJ) (eD cD aD fD) wC wM) hP
  have hDc : va_D (lwA s) ((eJ cJ aJ fJ) :: wC) := lz_cutD (lw_pJ (eJ cJ aJ fJ) (eD cD aD fD) wC wM) hD
  refine lz_cMi (w2 := fun w1 => w1 ++ ((eD cD aD fD) :: wM)) (lz_runSH (As := [.ref (o 0), .int (xs ((1 + 6 * j) + 1)), .ref aJ]) (rest := []) hC hKJ hS hl (c_L_every hwC hOk hs) (vx_cwSW 3 hts gL_law_L_every rfl rfl rfl (by decide +kernel) ⟨Nat.le_of_ble_eq_true rfl, Nat.le_of_ble_eq_true rfl⟩) hPc hDc rfl rfl (Nat.le_of_ble_eq_true rfl) dL_law_232 ⟨by show _ ≤ 601024; omega, by show _ ≤ 7293000; omega⟩) hP hD hS hA (lw_pJ (eJ cJ aJ fJ) (eD cD aD fD) wC wM) (fun r w1 h => by obtain ⟨k, wC9, g, -, -, rfl, h0, h1⟩ := h; exact congrArg (List.cons aJ) ((Nat.eq_zero_or_pos k).elim (fun hk => (h0 hk).2.ad2 hwC) (fun hk => (h1 (by omega)).ad2 hwC))) (fun _ => List.Perm.refl _) (fun r9 w1 H locs hpo hP hD hS => ?_)
  obtain ⟨k9, wC9, g, rfl, hk9, rfl, hk0, hk1⟩ := hpo
  replace hP := lz_permP (lw_pJ (eJ cJ aJ g) (eD cD aD fD) wC9 wM).symm hP
  replace hD := lz_permD (lw_pJ (eJ cJ aJ g) (eD cD aD fD) wC9 wM).symm hD
  refine lv_istore (lv' := [(6, .int (nI k9)), (5, .int (nI (1 + 6 * j))), (0, .ref b), (1, .ref (o 0)), (2, .ref (u 0)), (3, .ref aJ), (4, .ref aD)]) hx hb dL_law_235 hl (by decide) rfl (fun ls hl => ?_)
  refine lv_aload_n hx hb dL_law_237 rfl (lv_at hl 4 rfl) ?_
  refine lv_aload_n hx hb dL_law_238 rfl (lv_at hl 2 rfl) ?_
  refine lv_iload hx hb dL_law_239 (lv_at hl 1 rfl) ?_
  refine lv_iconst (v := nI 1) hx hb dL_law_241 (by decide) ?_
  refine lv_iadd hx hb dL_law_242 ?_
  refine lz_i (nI_add _ _) ?_
  refine lz_sld hx hb hX hbl hbA hS (k := ((1 + 6 * j) + 1)) (by omega) (by omega) dL_law_243 ?_
  have hPm : va_P D vwCl wM H := lz_cutP (lw_pM (eJ cJ aJ g) (eD cD aD fD) wC9 wM) hP
  have hDm : va_D (lwA s) wM := lz_cutD (lw_pM (eJ cJ aJ g) (eD cD aD fD) wC9 wM) hD
  obtain ⟨r1, r2, r3, f1, f2, f3, f4, k1, kc, -, -, -, hwe⟩ := id hwM
  have hPr := id hPm
  rw [hwe] at hPr
  refine lz_cMi (w2 := fun w1 => w1 ++ (eJ cJ aJ g :: eD cD aD fD :: wC9)) (lz_runV (C := RX4) (As := [.int (xs ((1 + 6 * j) + 1))]) (rest := []) hC hS hl (c_X4_every hwM hOkY) (cwV 1 hts gL_law_X4_every rfl rfl rfl (by decide +kernel) ⟨Nat.le_of_ble_eq_true rfl, Nat.le_of_ble_eq_true rfl⟩) hPm hDm (va_recv hK hPr (ci := 4) (q0 := 0) rfl rfl) rfl rfl (Nat.le_of_ble_eq_true rfl) dL_law_244 ⟨by show _ ≤ 601024; omega, by show _ ≤ 7293000; omega⟩) hP hD hS hA (lw_pM (eJ cJ aJ g) (eD cD aD fD) wC9 wM) (fun r w1 h => by obtain ⟨k, -, h0, h1⟩ := h; exact (Nat.eq_zero_or_pos k).elim (fun hk => (h0 hk).2.ad2 hwM) (fun hk => (h1 (by omega)).ad2 hwM)) (fun _ => List.Perm.refl _) (fun r8 wM9 H locs hpo hP hD hS => ?_)
  obtain ⟨k8, hk8, hm0, hm1⟩ := hpo
  have hk7 : cdR (0 ≤ (xs ((1 + 6 * j) + 1)).toInt ∧ (xs ((1 + 6 * j) + 1)).toInt ≤ 100) True True k8 := cdR_iff Iff.rfl Iff.rfl Iff.rfl hk8
  have hkk : k9 = k8 := cdR_fun hk9 hk7
  subst hkk
  have hlt := cdR_lt hk9
  replace hP := lz_permP (lw_pM (eJ cJ aJ g) (eD cD aD fD) wC9 wM9).symm hP
  replace hD := lz_permD (lw_pM (eJ cJ aJ g) (eD cD aD fD) wC9 wM9).symm hD
  refine lv_istore (lv' := [(7, .int r8), (6, .int (nI k9)), (5, .int (nI (1 + 6 * j))), (0, .ref b), (1, .ref (o 0)), (2, .ref (u 0)), (3, .ref aJ), (4, .ref aD)]) hx hb dL_law_247 hl (by decide) rfl (fun ls hl => ?_)
  rcases Nat.eq_zero_or_pos k9 with hkz | hkz
  · subst hkz
    obtain ⟨hg, hwC2⟩ := hk0 rfl
    obtain ⟨hr8, hwM2⟩ := hm0 rfl
    have hpp := cdR_0 hk9 rfl
    have hl : lv_has ls 10 [(7, .int r8), (6, .int (nI 0)), (5, .int (nI (1 + 6 * j))), (0, .ref b), (1, .ref (o 0)), (2, .ref (u 0)), (3, .ref aJ), (4, .ref aD)] := hl
    refine lv_aload_n hx hb dL_law_249 rfl (lv_at hl 5 rfl) ?_
    have hPm : va_P D vwCl wM9 H := lz_cutP (lw_pM (eJ cJ aJ g) (eD cD aD fD) wC9 wM9) hP
    have hDm : va_D (lwA s) wM9 := lz_cutD (lw_pM (eJ cJ aJ g) (eD cD aD fD) wC9 wM9) hD
    obtain ⟨r1, r2, r3, f1, f2, f3, f4, k1, kc, -, -, -, hwe2⟩ := id hwM2
    have hPr := id hPm
    rw [hwe2] at hPr
    refine vp_callSi (lz_runV (C := RX4) (As := []) (rest := []) hC hS hl (c_X4_thrown hwM2) (cwV 0 hts gL_law_X4_thrown rfl rfl rfl (by decide +kernel) ⟨Nat.le_of_ble_eq_true rfl, Nat.le_of_ble_eq_true rfl⟩) hPm hDm (va_recv hK hPr (ci := 4) (q0 := 0) rfl rfl) rfl rfl (Nat.le_of_ble_eq_true rfl) dL_law_250 ⟨by show _ ≤ 601024; omega, by show _ ≤ 7293000; omega⟩).run (fun r7 hr7 => ?_)
    subst hr7
    refine lv_iload hx hb dL_law_253 (lv_at hl 1 rfl) ?_
    refine lv_icmp_eq (tgt := 260) hx hb dL_law_255 (by decide) (fun c_1 => ?_) (fun c_1 => absurd rfl c_1)
    refine lv_iload hx hb dL_law_260 (lv_at hl 1 rfl) ?_
    refine lv_if_ne (tgt := 277) hx hb dL_law_262 (by decide) (fun c_2 => absurd nI_0 c_2) (fun c_2 => ?_)
    refine lv_aload_n hx hb dL_law_265 rfl (lv_at hl 6 rfl) ?_
    refine lv_iconst (v := nI 0) hx hb dL_law_266 (by decide) ?_
    refine lz_lald hx hb hKJ hP dL_law_267 ?_
    refine lv_iload hx hb dL_law_268 (lv_at hl 0 rfl) ?_
    refine lv_i2l (v := r8.toInt64) hx hb dL_law_270 rfl ?_
    refine W.lcmp hx hb dL_law_271 ?_
    have hve : r8 = nI ev := hr8.trans rfl
    refine lv_if_eq (tgt := 277) hx hb dL_law_272 (by decide) (fun c_3 => ?_) (fun c_3 => absurd (by rw [hg, hve]; exact lg_self _) c_3)
    refine lv_goto (tgt := 1310) hx hb dL_law_277 (by decide) ?_
    exact hN (tn (xs ((1 + 6 * j) + 1))) R x _ _ wC9 wM9 g fD ⟨hwC2, hwM2, hR, every_ok hOk hpp.1, hs, by omega⟩ H locs ls hP hD hS (lv_sub hl [2, 3, 4, 5, 6, 7] rfl)
  · have hwC2 := hk1 (by omega)
    have hwM2 := hm1 (by omega)
    have hl : lv_has ls 10 [(7, .int r8), (6, .int (nI k9)), (5, .int (nI (1 + 6 * j))), (0, .ref b), (1, .ref (o 0)), (2, .ref (u 0)), (3, .ref aJ), (4, .ref aD)] := hl
    refine lv_aload_n hx hb dL_law_249 rfl (lv_at hl 5 rfl) ?_
    have hPm : va_P D vwCl wM9 H := lz_cutP (lw_pM (eJ cJ aJ g) (eD cD aD fD) wC9 wM9) hP
    have hDm : va_D (lwA s) wM9 := lz_cutD (lw_pM (eJ cJ aJ g) (eD cD aD fD) wC9 wM9) hD
    obtain ⟨r1, r2, r3, f1, f2, f3, f4, k1, kc, -, -, -, hwe2⟩ := id hwM2
    have hPr := id hPm
    rw [hwe2] at hPr
    refine vp_callSi (lz_runV (C := RX4) (As := []) (rest := []) hC hS hl (c_X4_thrown hwM2) (cwV 0 hts gL_law_X4_thrown rfl rfl rfl (by decide +kernel) ⟨Nat.le_of_ble_eq_true rfl, Nat.le_of_ble_eq_true rfl⟩) hPm hDm (va_recv hK hPr (ci := 4) (q0 := 0) rfl rfl) rfl rfl (Nat.le_of_ble_eq_true rfl) dL_law_250 ⟨by show _ ≤ 601024; omega, by show _ ≤ 7293000; omega⟩).run (fun r7 hr7 => ?_)
    subst hr7
    refine lv_iload hx hb dL_law_253 (lv_at hl 1 rfl) ?_
    refine lv_icmp_eq (tgt := 260) hx hb dL_law_255 (by decide) (fun c_4 => ?_) (fun c_4 => absurd rfl c_4)
    refine lv_iload hx hb dL_law_260 (lv_at hl 1 rfl) ?_
    refine lv_if_ne (tgt := 277) hx hb dL_law_262 (by decide) (fun c_5 => ?_) (fun c_5 => absurd c_5 (fun q9 => absurd ((iz_ne0 (by omega)).mp q9) (by omega)))
    refine lv_goto (tgt := 1310) hx hb dL_law_277 (by decide) ?_
    exact hN ev R x (stL x M) _ wC9 wM9 g fD ⟨hwC2, hwM2, hR, hOk, hs, by omega⟩ H locs ls hP hD hS (lv_sub hl [2, 3, 4, 5, 6, 7] rfl)

set_option maxRecDepth 100000 in
set_option maxHeartbeats 4000000 in
/-- case 2: input -/
theorem law_2 {p : Program} {l : Launch} {e : Env} {m : MethodId} {c : Code} {s : State} {below : List Frame} {meth : Method} {b L : Nat} {xs : Nat → Int32} {D : va_G} {cI cF cQ cJ cD : ClassId} {aT : Nat} {o u : Nat → Nat} {aJ aD n j ev : Nat} {R : List dI} {x y : St} {th : Int32} {wC wM : va_W} {fJ : Nat → Int64} {fD : Nat → UInt64} {H : Heap} {locs : List Loc} {ls : Array Slot} (h0 : lwC p l m c s b L xs D cI cF cQ cJ cD aT) (hj : j ≤ 511) (hi : 1 + 6 * j + 6 ≤ L) (hN : lwN p l e m c s below meth b D cI cF cQ cJ cD o u aJ aD n j) (hI : LI cI cF cQ o u n j ev R x y th wC wM) (hP : va_P D vwCl (eJ cJ aJ fJ :: eD cD aD fD :: (wC ++ wM)) H) (hD : va_D (lwA s) (eJ cJ aJ fJ :: eD cD aD fD :: (wC ++ wM))) (hS : va_S (lwA s) s.heap H locs) (hl : lv_has ls 10 (lwL b (o 0) (u 0) aJ aD (1 + 6 * j))) : W p l e room_1 s m #[Value.ref b] below meth c H locs (46 + 8 * j) (13635 + 48 * j) (lw_Z below #[Value.ref b] s) (F0 m 280 ls []) := by
  obtain ⟨hC, hKJ, hX, hbl, hL⟩ := id h0
  have hx := hC.1.1
  have hb := hC.1.2.1
  have hml := hC.1.2.2.1
  have hown : s.vm.findClass RL = some m.cls := hC.1.2.2.2.1
  have hts := hC.1.2.2.2.2
  have hA := hC.2.1
  have hK := hC.2.2.2.1
  have hbA : ¬ lwA s b := Nat.not_le.mpr hbl
  obtain ⟨hwC, hwM, hR, hOk, hs, hT⟩ := id hI
  obtain ⟨M, rfl, hLR⟩ := rel_eq hR
  have hOkY := hR.ok hOk
  have hn9 := hOk.1.2
  have hL9 : rIn n (sL x) := hOk.2.2.2.2.2.1
  have hT9 : sT x ≤ 64 * 511 := by omega
  have hl : lv_has ls 10 [(5, .int (nI (1 + 6 * j))), (0, .ref b), (1, .ref (o 0)), (2, .ref (u 0)), (3, .ref aJ), (4, .ref aD)] := hl
  refine lv_aload_n hx hb dL_law_280 rfl (lv_at hl 2 rfl) ?_
  refine lv_aload_n hx hb dL_law_281 rfl (lv_at hl 1 rfl) ?_
  refine lv_iload hx hb dL_law_282 (lv_at hl 0 rfl) ?_
  refine lv_iconst (v := nI 1) hx hb dL_law_284 (by decide) ?_
  refine lv_iadd hx hb dL_law_285 ?_
  refine lz_i (nI_add _ _) ?_
  refine lz_sld hx hb hX hbl hbA hS (k := ((1 + 6 * j) + 1)) (by omega) (by omega) dL_law_286 ?_
  refine lv_aload_n hx hb dL_law_287 rfl (lv_at hl 1 rfl) ?_
  refine lv_iload hx hb dL_law_288 (lv_at hl 0 rfl) ?_
  refine lv_iconst (v := nI 2) hx hb dL_law_290 (by decide) ?_
  refine lv_iadd hx hb dL_law_291 ?_
  refine lz_i (nI_add _ _) ?_
  refine lz_sld hx hb hX hbl hbA hS (k := ((1 + 6 * j) + 2)) (by omega) (by omega) dL_law_292 ?_
  refine lv_aload_n hx hb dL_law_293 rfl (lv_at hl 1 rfl) ?_
  refine lv_iload hx hb dL_law_294 (lv_at hl 0 rfl) ?_
  refine lv_iconst (v := nI 3) hx hb dL_law_296 (by decide) ?_
  refine lv_iadd hx hb dL_law_297 ?_
  refine lz_i (nI_add _ _) ?_
  refine lz_sld hx hb hX hbl hbA hS (k := ((1 + 6 * j) + 3)) (by omega) (by omega) dL_law_298 ?_
  refine lv_i2f hx hb dL_law_299 ?_
  refine lv_ldcf (v := c8) hx hb hown (hts (.constantFloat RL 78 (1040187392)) (List.mem_of_getElem? (i := 8) rfl)) dL_law_300 ?_
  refine lv_fmul hx hb dL_law_302 (fl_n32 (fl_mul (i2f_F _) c8_F)) ?_
  refine lv_aload_n hx hb dL_law_303 rfl (lv_at hl 4 rfl) ?_
  have hPc : va_P D vwCl ((eJ cJ aJ fJ) :: wC) H := lz_cutP (lw_pJ (eJ cJ aJ fJ) (eD cD aD fD) wC wM) hP
  have hDc : va_D (lwA s) ((eJ cJ aJ fJ) :: wC) := lz_cutD (lw_pJ (eJ cJ aJ fJ) (eD cD aD fD) wC wM) hD
  refine lz_cMi (w2 := fun w1 => w1 ++ ((eD cD aD fD) :: wM)) (lz_runSH (As := [.ref (o 0), .int (xs ((1 + 6 * j) + 1)), .int (xs ((1 + 6 * j) + 2)), .float (FP.fmul (FP.i2f (xs ((1 + 6 * j) + 3))) c8), .ref aJ]) (rest := []) hC hKJ hS hl (c_L_input hwC hOk hs) (vx_cwSW 5 hts gL_law_L_input rfl rfl rfl (by decide +kernel) ⟨Nat.le_of_ble_eq_true rfl, Nat.le_of_ble_eq_true rfl⟩) hPc hDc rfl rfl (Nat.le_of_ble_eq_true rfl) dL_law_304 ⟨by show _ ≤ 601024; omega, by show _ ≤ 7293000; omega⟩) hP hD hS hA (lw_pJ (eJ cJ aJ fJ) (eD cD aD fD) wC wM) (fun r w1 h => by obtain ⟨k, wC9, g, -, -, rfl, h0, h1⟩ := h; exact congrArg (List.cons aJ) ((Nat.eq_zero_or_pos k).elim (fun hk => (h0 hk).2.ad2 hwC) (fun hk => (h1 (by omega)).ad2 hwC))) (fun _ => List.Perm.refl _) (fun r9 w1 H locs hpo hP hD hS => ?_)
  obtain ⟨k9, wC9, g, rfl, hk9, rfl, hk0, hk1⟩ := hpo
  replace hP := lz_permP (lw_pJ (eJ cJ aJ g) (eD cD aD fD) wC9 wM).symm hP
  replace hD := lz_permD (lw_pJ (eJ cJ aJ g) (eD cD aD fD) wC9 wM).symm hD
  refine lv_istore (lv' := [(6, .int (nI k9)), (5, .int (nI (1 + 6 * j))), (0, .ref b), (1, .ref (o 0)), (2, .ref (u 0)), (3, .ref aJ), (4, .ref aD)]) hx hb dL_law_307 hl (by decide) rfl (fun ls hl => ?_)
  refine lv_aload_n hx hb dL_law_309 rfl (lv_at hl 4 rfl) ?_
  refine lv_aload_n hx hb dL_law_310 rfl (lv_at hl 2 rfl) ?_
  refine lv_iload hx hb dL_law_311 (lv_at hl 1 rfl) ?_
  refine lv_iconst (v := nI 1) hx hb dL_law_313 (by decide) ?_
  refine lv_iadd hx hb dL_law_314 ?_
  refine lz_i (nI_add _ _) ?_
  refine lz_sld hx hb hX hbl hbA hS (k := ((1 + 6 * j) + 1)) (by omega) (by omega) dL_law_315 ?_
  refine lv_aload_n hx hb dL_law_316 rfl (lv_at hl 2 rfl) ?_
  refine lv_iload hx hb dL_law_317 (lv_at hl 1 rfl) ?_
  refine lv_iconst (v := nI 2) hx hb dL_law_319 (by decide) ?_
  refine lv_iadd hx hb dL_law_320 ?_
  refine lz_i (nI_add _ _) ?_
  refine lz_sld hx hb hX hbl hbA hS (k := ((1 + 6 * j) + 2)) (by omega) (by omega) dL_law_321 ?_
  refine lv_aload_n hx hb dL_law_322 rfl (lv_at hl 2 rfl) ?_
  refine lv_iload hx hb dL_law_323 (lv_at hl 1 rfl) ?_
  refine lv_iconst (v := nI 3) hx hb dL_law_325 (by decide) ?_
  refine lv_iadd hx hb dL_law_326 ?_
  refine lz_i (nI_add _ _) ?_
  refine lz_sld hx hb hX hbl hbA hS (k := ((1 + 6 * j) + 3)) (by omega) (by omega) dL_law_327 ?_
  refine lv_i2f hx hb dL_law_328 ?_
  refine lv_ldcf (v := c8) hx hb hown (hts (.constantFloat RL 78 (1040187392)) (List.mem_of_getElem? (i := 8) rfl)) dL_law_329 ?_
  refine lv_fmul hx hb dL_law_331 (fl_n32 (fl_mul (i2f_F _) c8_F)) ?_
  have hPm : va_P D vwCl wM H := lz_cutP (lw_pM (eJ cJ aJ g) (eD cD aD fD) wC9 wM) hP
  have hDm : va_D (lwA s) wM := lz_cutD (lw_pM (eJ cJ aJ g) (eD cD aD fD) wC9 wM) hD
  obtain ⟨r1, r2, r3, f1, f2, f3, f4, k1, kc, -, -, -, hwe⟩ := id hwM
  have hPr := id hPm
  rw [hwe] at hPr
  refine lz_cMi (w2 := fun w1 => w1 ++ (eJ cJ aJ g :: eD cD aD fD :: wC9)) (lz_runV (C := RX4) (As := [.int (xs ((1 + 6 * j) + 1)), .int (xs ((1 + 6 * j) + 2)), .float (FP.fmul (FP.i2f (xs ((1 + 6 * j) + 3))) c8)]) (rest := []) hC hS hl (c_X4_input hwM hOkY) (cwV 3 hts gL_law_X4_input rfl rfl rfl (by decide +kernel) ⟨Nat.le_of_ble_eq_true rfl, Nat.le_of_ble_eq_true rfl⟩) hPm hDm (va_recv hK hPr (ci := 4) (q0 := 0) rfl rfl) rfl rfl (Nat.le_of_ble_eq_true rfl) dL_law_332 ⟨by show _ ≤ 601024; omega, by show _ ≤ 7293000; omega⟩) hP hD hS hA (lw_pM (eJ cJ aJ g) (eD cD aD fD) wC9 wM) (fun r w1 h => by obtain ⟨k, -, h0, h1⟩ := h; exact (Nat.eq_zero_or_pos k).elim (fun hk => (h0 hk).2.ad2 hwM) (fun hk => (h1 (by omega)).ad2 hwM)) (fun _ => List.Perm.refl _) (fun r8 wM9 H locs hpo hP hD hS => ?_)
  obtain ⟨k8, hk8, hm0, hm1⟩ := hpo
  have hk7 : cdR (kn n (xs ((1 + 6 * j) + 1))) (okW (xs ((1 + 6 * j) + 2)) (FP.fmul (FP.i2f (xs ((1 + 6 * j) + 3))) c8)) (1 + (sL x).length ≤ 512) k8 := cdR_iff Iff.rfl Iff.rfl (by show (1 + M.length ≤ 512) ↔ _; rw [hLR.len]) hk8
  have hkk : k9 = k8 := cdR_fun hk9 hk7
  subst hkk
  have hlt := cdR_lt hk9
  replace hP := lz_permP (lw_pM (eJ cJ aJ g) (eD cD aD fD) wC9 wM9).symm hP
  replace hD := lz_permD (lw_pM (eJ cJ aJ g) (eD cD aD fD) wC9 wM9).symm hD
  refine lv_istore (lv' := [(7, .int r8), (6, .int (nI k9)), (5, .int (nI (1 + 6 * j))), (0, .ref b), (1, .ref (o 0)), (2, .ref (u 0)), (3, .ref aJ), (4, .ref aD)]) hx hb dL_law_335 hl (by decide) rfl (fun ls hl => ?_)
  rcases Nat.eq_zero_or_pos k9 with hkz | hkz
  · subst hkz
    obtain ⟨hg, hwC2⟩ := hk0 rfl
    obtain ⟨hr8, hwM2⟩ := hm0 rfl
    have hpp := cdR_0 hk9 rfl
    have hl : lv_has ls 10 [(7, .int r8), (6, .int (nI 0)), (5, .int (nI (1 + 6 * j))), (0, .ref b), (1, .ref (o 0)), (2, .ref (u 0)), (3, .ref aJ), (4, .ref aD)] := hl
    refine lv_aload_n hx hb dL_law_337 rfl (lv_at hl 5 rfl) ?_
    have hPm : va_P D vwCl wM9 H := lz_cutP (lw_pM (eJ cJ aJ g) (eD cD aD fD) wC9 wM9) hP
    have hDm : va_D (lwA s) wM9 := lz_cutD (lw_pM (eJ cJ aJ g) (eD cD aD fD) wC9 wM9) hD
    obtain ⟨r1, r2, r3, f1, f2, f3, f4, k1, kc, -, -, -, hwe2⟩ := id hwM2
    have hPr := id hPm
    rw [hwe2] at hPr
    refine vp_callSi (lz_runV (C := RX4) (As := []) (rest := []) hC hS hl (c_X4_thrown hwM2) (cwV 0 hts gL_law_X4_thrown rfl rfl rfl (by decide +kernel) ⟨Nat.le_of_ble_eq_true rfl, Nat.le_of_ble_eq_true rfl⟩) hPm hDm (va_recv hK hPr (ci := 4) (q0 := 0) rfl rfl) rfl rfl (Nat.le_of_ble_eq_true rfl) dL_law_338 ⟨by show _ ≤ 601024; omega, by show _ ≤ 7293000; omega⟩).run (fun r7 hr7 => ?_)
    subst hr7
    refine lv_iload hx hb dL_law_341 (lv_at hl 1 rfl) ?_
    refine lv_icmp_eq (tgt := 348) hx hb dL_law_343 (by decide) (fun c_1 => ?_) (fun c_1 => absurd rfl c_1)
    refine lv_iload hx hb dL_law_348 (lv_at hl 1 rfl) ?_
    refine lv_if_ne (tgt := 365) hx hb dL_law_350 (by decide) (fun c_2 => absurd nI_0 c_2) (fun c_2 => ?_)
    refine lv_aload_n hx hb dL_law_353 rfl (lv_at hl 6 rfl) ?_
    refine lv_iconst (v := nI 0) hx hb dL_law_354 (by decide) ?_
    refine lz_lald hx hb hKJ hP dL_law_355 ?_
    refine lv_iload hx hb dL_law_356 (lv_at hl 0 rfl) ?_
    refine lv_i2l (v := r8.toInt64) hx hb dL_law_358 rfl ?_
    refine W.lcmp hx hb dL_law_359 ?_
    have hve : r8 = nI (cq (rins (sL x) (sT x, tn (xs ((1 + 6 * j) + 1)), tn (xs ((1 + 6 * j) + 2)), (FP.fmul (FP.i2f (xs ((1 + 6 * j) + 3))) c8))) (sT x : Int)) := hr8.trans (congrArg nI ((hLR.put hs _).cqe _).symm)
    refine lv_if_eq (tgt := 365) hx hb dL_law_360 (by decide) (fun c_3 => ?_) (fun c_3 => absurd (by rw [hg, hve]; exact lg_self _) c_3)
    refine lv_goto (tgt := 1310) hx hb dL_law_365 (by decide) ?_
    exact hN ev R (stL x (rins (sL x) (sT x, tn (xs ((1 + 6 * j) + 1)), tn (xs ((1 + 6 * j) + 2)), (FP.fmul (FP.i2f (xs ((1 + 6 * j) + 3))) c8)))) _ _ wC9 wM9 g fD ⟨hwC2, hwM2, hR.stL (hLR.put hs _), Ok_L hOk (rIn_rins hL9 (by have := hpp.2.2; omega) ⟨by show sT x < 2 ^ 30; omega, by have := hpp.1; show (xs ((1 + 6 * j) + 1)).toInt.toNat < n; omega, by have := hpp.2.1.1; show (xs ((1 + 6 * j) + 2)).toInt.toNat ≤ 2; omega, inF_F cN_F cP_F hpp.2.1.2⟩), rins_srt hs _, by show sT x ≤ _; omega⟩ H locs ls hP hD hS (lv_sub hl [2, 3, 4, 5, 6, 7] rfl)
  · have hwC2 := hk1 (by omega)
    have hwM2 := hm1 (by omega)
    have hl : lv_has ls 10 [(7, .int r8), (6, .int (nI k9)), (5, .int (nI (1 + 6 * j))), (0, .ref b), (1, .ref (o 0)), (2, .ref (u 0)), (3, .ref aJ), (4, .ref aD)] := hl
    refine lv_aload_n hx hb dL_law_337 rfl (lv_at hl 5 rfl) ?_
    have hPm : va_P D vwCl wM9 H := lz_cutP (lw_pM (eJ cJ aJ g) (eD cD aD fD) wC9 wM9) hP
    have hDm : va_D (lwA s) wM9 := lz_cutD (lw_pM (eJ cJ aJ g) (eD cD aD fD) wC9 wM9) hD
    obtain ⟨r1, r2, r3, f1, f2, f3, f4, k1, kc, -, -, -, hwe2⟩ := id hwM2
    have hPr := id hPm
    rw [hwe2] at hPr
    refine vp_callSi (lz_runV (C := RX4) (As := []) (rest := []) hC hS hl (c_X4_thrown hwM2) (cwV 0 hts gL_law_X4_thrown rfl rfl rfl (by decide +kernel) ⟨Nat.le_of_ble_eq_true rfl, Nat.le_of_ble_eq_true rfl⟩) hPm hDm (va_recv hK hPr (ci := 4) (q0 := 0) rfl rfl) rfl rfl (Nat.le_of_ble_eq_true rfl) dL_law_338 ⟨by show _ ≤ 601024; omega, by show _ ≤ 7293000; omega⟩).run (fun r7 hr7 => ?_)
    subst hr7
    refine lv_iload hx hb dL_law_341 (lv_at hl 1 rfl) ?_
    refine lv_icmp_eq (tgt := 348) hx hb dL_law_343 (by decide) (fun c_4 => ?_) (fun c_4 => absurd rfl c_4)
    refine lv_iload hx hb dL_law_348 (lv_at hl 1 rfl) ?_
    refine lv_if_ne (tgt := 365) hx hb dL_law_350 (by decide) (fun c_5 => ?_) (fun c_5 => absurd c_5 (fun q9 => absurd ((iz_ne0 (by omega)).mp q9) (by omega)))
    refine lv_goto (tgt := 1310) hx hb dL_law_365 (by decide) ?_
    exact hN ev R x (stL x M) _ wC9 wM9 g fD ⟨hwC2, hwM2, hR, hOk, hs, by omega⟩ H locs ls hP hD hS (lv_sub hl [2, 3, 4, 5, 6, 7] rfl)

set_option maxRecDepth 100000 in
set_option maxHeartbeats 4000000 in
/-- case 3: inputs -/
theorem law_3 {p : Program} {l : Launch} {e : Env} {m : MethodId} {c : Code} {s : State} {below : List Frame} {meth : Method} {b L : Nat} {xs : Nat → Int32} {D : va_G} {cI cF cQ cJ cD : ClassId} {aT : Nat} {o u : Nat → Nat} {aJ aD n j ev : Nat} {R : List dI} {x y : St} {th : Int32} {wC wM : va_W} {fJ : Nat → Int64} {fD : Nat → UInt64} {H : Heap} {locs : List Loc} {ls : Array Slot} (h0 : lwC p l m c s b L xs D cI cF cQ cJ cD aT) (hj : j ≤ 511) (hi : 1 + 6 * j + 6 ≤ L) (hN : lwN p l e m c s below meth b D cI cF cQ cJ cD o u aJ aD n j) (hI : LI cI cF cQ o u n j ev R x y th wC wM) (hP : va_P D vwCl (eJ cJ aJ fJ :: eD cD aD fD :: (wC ++ wM)) H) (hD : va_D (lwA s) (eJ cJ aJ fJ :: eD cD aD fD :: (wC ++ wM))) (hS : va_S (lwA s) s.heap H locs) (hl : lv_has ls 10 (lwL b (o 0) (u 0) aJ aD (1 + 6 * j))) : W p l e room_1 s m #[Value.ref b] below meth c H locs (46 + 8 * j) (13635 + 48 * j) (lw_Z below #[Value.ref b] s) (F0 m 368 ls []) := by
  obtain ⟨hC, hKJ, hX, hbl, hL⟩ := id h0
  have hx := hC.1.1
  have hb := hC.1.2.1
  have hml := hC.1.2.2.1
  have hown : s.vm.findClass RL = some m.cls := hC.1.2.2.2.1
  have hts := hC.1.2.2.2.2
  have hA := hC.2.1
  have hK := hC.2.2.2.1
  have hbA : ¬ lwA s b := Nat.not_le.mpr hbl
  obtain ⟨hwC, hwM, hR, hOk, hs, hT⟩ := id hI
  obtain ⟨M, rfl, hLR⟩ := rel_eq hR
  have hOkY := hR.ok hOk
  have hn9 := hOk.1.2
  have hL9 : rIn n (sL x) := hOk.2.2.2.2.2.1
  have hT9 : sT x ≤ 64 * 511 := by omega
  have hl : lv_has ls 10 [(5, .int (nI (1 + 6 * j))), (0, .ref b), (1, .ref (o 0)), (2, .ref (u 0)), (3, .ref aJ), (4, .ref aD)] := hl
  refine lv_aload_n hx hb dL_law_368 rfl (lv_at hl 2 rfl) ?_
  refine lv_aload_n hx hb dL_law_369 rfl (lv_at hl 1 rfl) ?_
  refine lv_iload hx hb dL_law_370 (lv_at hl 0 rfl) ?_
  refine lv_iconst (v := nI 1) hx hb dL_law_372 (by decide) ?_
  refine lv_iadd hx hb dL_law_373 ?_
  refine lz_i (nI_add _ _) ?_
  refine lz_sld hx hb hX hbl hbA hS (k := ((1 + 6 * j) + 1)) (by omega) (by omega) dL_law_374 ?_
  refine lv_aload_n hx hb dL_law_375 rfl (lv_at hl 1 rfl) ?_
  refine lv_iload hx hb dL_law_376 (lv_at hl 0 rfl) ?_
  refine lv_iconst (v := nI 2) hx hb dL_law_378 (by decide) ?_
  refine lv_iadd hx hb dL_law_379 ?_
  refine lz_i (nI_add _ _) ?_
  refine lz_sld hx hb hX hbl hbA hS (k := ((1 + 6 * j) + 2)) (by omega) (by omega) dL_law_380 ?_
  refine lv_aload_n hx hb dL_law_381 rfl (lv_at hl 1 rfl) ?_
  refine lv_iload hx hb dL_law_382 (lv_at hl 0 rfl) ?_
  refine lv_iconst (v := nI 3) hx hb dL_law_384 (by decide) ?_
  refine lv_iadd hx hb dL_law_385 ?_
  refine lz_i (nI_add _ _) ?_
  refine lz_sld hx hb hX hbl hbA hS (k := ((1 + 6 * j) + 3)) (by omega) (by omega) dL_law_386 ?_
  refine lv_aload_n hx hb dL_law_387 rfl (lv_at hl 1 rfl) ?_
  refine lv_iload hx hb dL_law_388 (lv_at hl 0 rfl) ?_
  refine lv_iconst (v := nI 4) hx hb dL_law_390 (by decide) ?_
  refine lv_iadd hx hb dL_law_391 ?_
  refine lz_i (nI_add _ _) ?_
  refine lz_sld hx hb hX hbl hbA hS (k := ((1 + 6 * j) + 4)) (by omega) (by omega) dL_law_392 ?_
  refine lv_aload_n hx hb dL_law_393 rfl (lv_at hl 1 rfl) ?_
  refine lv_iload hx hb dL_law_394 (lv_at hl 0 rfl) ?_
  refine lv_iconst (v := nI 5) hx hb dL_law_396 (by decide) ?_
  refine lv_iadd hx hb dL_law_397 ?_
  refine lz_i (nI_add _ _) ?_
  refine lz_sld hx hb hX hbl hbA hS (k := ((1 + 6 * j) + 5)) (by omega) (by omega) dL_law_398 ?_
  refine lv_i2f hx hb dL_law_399 ?_
  refine lv_ldcf (v := c8) hx hb hown (hts (.constantFloat RL 78 (1040187392)) (List.mem_of_getElem? (i := 8) rfl)) dL_law_400 ?_
  refine lv_fmul hx hb dL_law_402 (fl_n32 (fl_mul (i2f_F _) c8_F)) ?_
  refine lv_aload_n hx hb dL_law_403 rfl (lv_at hl 4 rfl) ?_
  have hPc : va_P D vwCl ((eJ cJ aJ fJ) :: wC) H := lz_cutP (lw_pJ (eJ cJ aJ fJ) (eD cD aD fD) wC wM) hP
  have hDc : va_D (lwA s) ((eJ cJ aJ fJ) :: wC) := lz_cutD (lw_pJ (eJ cJ aJ fJ) (eD cD aD fD) wC wM) hD
  refine lz_cMi (w2 := fun w1 => w1 ++ ((eD cD aD fD) :: wM)) (lz_runSH (As := [.ref (o 0), .int (xs ((1 + 6 * j) + 1)), .int (xs ((1 + 6 * j) + 2)), .int (xs ((1 + 6 * j) + 3)), .int (xs ((1 + 6 * j) + 4)), .float (FP.fmul (FP.i2f (xs ((1 + 6 * j) + 5))) c8), .ref aJ]) (rest := []) hC hKJ hS hl (c_L_inputs hwC hOk hs) (vx_cwSW 7 hts gL_law_L_inputs rfl rfl rfl (by decide +kernel) ⟨Nat.le_of_ble_eq_true rfl, Nat.le_of_ble_eq_true rfl⟩) hPc hDc rfl rfl (Nat.le_of_ble_eq_true rfl) dL_law_404 ⟨by show _ ≤ 601024; omega, by show _ ≤ 7293000; omega⟩) hP hD hS hA (lw_pJ (eJ cJ aJ fJ) (eD cD aD fD) wC wM) (fun r w1 h => by obtain ⟨k, wC9, g, -, -, rfl, h0, h1⟩ := h; exact congrArg (List.cons aJ) ((Nat.eq_zero_or_pos k).elim (fun hk => (h0 hk).2.ad2 hwC) (fun hk => (h1 (by omega)).ad2 hwC))) (fun _ => List.Perm.refl _) (fun r9 w1 H locs hpo hP hD hS => ?_)
  obtain ⟨k9, wC9, g, rfl, hk9, rfl, hk0, hk1⟩ := hpo
  replace hP := lz_permP (lw_pJ (eJ cJ aJ g) (eD cD aD fD) wC9 wM).symm hP
  replace hD := lz_permD (lw_pJ (eJ cJ aJ g) (eD cD aD fD) wC9 wM).symm hD
  refine lv_istore (lv' := [(6, .int (nI k9)), (5, .int (nI (1 + 6 * j))), (0, .ref b), (1, .ref (o 0)), (2, .ref (u 0)), (3, .ref aJ), (4, .ref aD)]) hx hb dL_law_407 hl (by decide) rfl (fun ls hl => ?_)
  refine lv_aload_n hx hb dL_law_409 rfl (lv_at hl 4 rfl) ?_
  refine lv_aload_n hx hb dL_law_410 rfl (lv_at hl 2 rfl) ?_
  refine lv_iload hx hb dL_law_411 (lv_at hl 1 rfl) ?_
  refine lv_iconst (v := nI 1) hx hb dL_law_413 (by decide) ?_
  refine lv_iadd hx hb dL_law_414 ?_
  refine lz_i (nI_add _ _) ?_
  refine lz_sld hx hb hX hbl hbA hS (k := ((1 + 6 * j) + 1)) (by omega) (by omega) dL_law_415 ?_
  refine lv_aload_n hx hb dL_law_416 rfl (lv_at hl 2 rfl) ?_
  refine lv_iload hx hb dL_law_417 (lv_at hl 1 rfl) ?_
  refine lv_iconst (v := nI 2) hx hb dL_law_419 (by decide) ?_
  refine lv_iadd hx hb dL_law_420 ?_
  refine lz_i (nI_add _ _) ?_
  refine lz_sld hx hb hX hbl hbA hS (k := ((1 + 6 * j) + 2)) (by omega) (by omega) dL_law_421 ?_
  refine lv_aload_n hx hb dL_law_422 rfl (lv_at hl 2 rfl) ?_
  refine lv_iload hx hb dL_law_423 (lv_at hl 1 rfl) ?_
  refine lv_iconst (v := nI 3) hx hb dL_law_425 (by decide) ?_
  refine lv_iadd hx hb dL_law_426 ?_
  refine lz_i (nI_add _ _) ?_
  refine lz_sld hx hb hX hbl hbA hS (k := ((1 + 6 * j) + 3)) (by omega) (by omega) dL_law_427 ?_
  refine lv_aload_n hx hb dL_law_428 rfl (lv_at hl 2 rfl) ?_
  refine lv_iload hx hb dL_law_429 (lv_at hl 1 rfl) ?_
  refine lv_iconst (v := nI 4) hx hb dL_law_431 (by decide) ?_
  refine lv_iadd hx hb dL_law_432 ?_
  refine lz_i (nI_add _ _) ?_
  refine lz_sld hx hb hX hbl hbA hS (k := ((1 + 6 * j) + 4)) (by omega) (by omega) dL_law_433 ?_
  refine lv_aload_n hx hb dL_law_434 rfl (lv_at hl 2 rfl) ?_
  refine lv_iload hx hb dL_law_435 (lv_at hl 1 rfl) ?_
  refine lv_iconst (v := nI 5) hx hb dL_law_437 (by decide) ?_
  refine lv_iadd hx hb dL_law_438 ?_
  refine lz_i (nI_add _ _) ?_
  refine lz_sld hx hb hX hbl hbA hS (k := ((1 + 6 * j) + 5)) (by omega) (by omega) dL_law_439 ?_
  refine lv_i2f hx hb dL_law_440 ?_
  refine lv_ldcf (v := c8) hx hb hown (hts (.constantFloat RL 78 (1040187392)) (List.mem_of_getElem? (i := 8) rfl)) dL_law_441 ?_
  refine lv_fmul hx hb dL_law_443 (fl_n32 (fl_mul (i2f_F _) c8_F)) ?_
  have hPm : va_P D vwCl wM H := lz_cutP (lw_pM (eJ cJ aJ g) (eD cD aD fD) wC9 wM) hP
  have hDm : va_D (lwA s) wM := lz_cutD (lw_pM (eJ cJ aJ g) (eD cD aD fD) wC9 wM) hD
  obtain ⟨r1, r2, r3, f1, f2, f3, f4, k1, kc, -, -, -, hwe⟩ := id hwM
  have hPr := id hPm
  rw [hwe] at hPr
  refine lz_cMi (w2 := fun w1 => w1 ++ (eJ cJ aJ g :: eD cD aD fD :: wC9)) (lz_runV (C := RX4) (As := [.int (xs ((1 + 6 * j) + 1)), .int (xs ((1 + 6 * j) + 2)), .int (xs ((1 + 6 * j) + 3)), .int (xs ((1 + 6 * j) + 4)), .float (FP.fmul (FP.i2f (xs ((1 + 6 * j) + 5))) c8)]) (rest := []) hC hS hl (c_X4_inputs hwM hOkY) (cwV 5 hts gL_law_X4_inputs rfl rfl rfl (by decide +kernel) ⟨Nat.le_of_ble_eq_true rfl, Nat.le_of_ble_eq_true rfl⟩) hPm hDm (va_recv hK hPr (ci := 4) (q0 := 0) rfl rfl) rfl rfl (Nat.le_of_ble_eq_true rfl) dL_law_444 ⟨by show _ ≤ 601024; omega, by show _ ≤ 7293000; omega⟩) hP hD hS hA (lw_pM (eJ cJ aJ g) (eD cD aD fD) wC9 wM) (fun r w1 h => by obtain ⟨k, -, h0, h1⟩ := h; exact (Nat.eq_zero_or_pos k).elim (fun hk => (h0 hk).2.ad2 hwM) (fun hk => (h1 (by omega)).ad2 hwM)) (fun _ => List.Perm.refl _) (fun r8 wM9 H locs hpo hP hD hS => ?_)
  obtain ⟨k8, hk8, hm0, hm1⟩ := hpo
  have hk7 : cdR (kn n (xs ((1 + 6 * j) + 1)) ∧ ((1 ≤ (xs ((1 + 6 * j) + 3)).toInt ∧ (xs ((1 + 6 * j) + 3)).toInt ≤ 256) → (0 ≤ (xs ((1 + 6 * j) + 1)).toInt + ((xs ((1 + 6 * j) + 3)).toInt - 1) * (xs ((1 + 6 * j) + 2)).toInt ∧ (xs ((1 + 6 * j) + 1)).toInt + ((xs ((1 + 6 * j) + 3)).toInt - 1) * (xs ((1 + 6 * j) + 2)).toInt < (n : Int)))) ((1 ≤ (xs ((1 + 6 * j) + 3)).toInt ∧ (xs ((1 + 6 * j) + 3)).toInt ≤ 256) ∧ okW (xs ((1 + 6 * j) + 4)) (FP.fmul (FP.i2f (xs ((1 + 6 * j) + 5))) c8)) ((xs ((1 + 6 * j) + 3)).toInt + ((sL x).length : Int) ≤ 512) k8 := cdR_iff Iff.rfl Iff.rfl (by show ((xs ((1 + 6 * j) + 3)).toInt + (M.length : Int) ≤ 512) ↔ _; rw [hLR.len]) hk8
  have hkk : k9 = k8 := cdR_fun hk9 hk7
  subst hkk
  have hlt := cdR_lt hk9
  replace hP := lz_permP (lw_pM (eJ cJ aJ g) (eD cD aD fD) wC9 wM9).symm hP
  replace hD := lz_permD (lw_pM (eJ cJ aJ g) (eD cD aD fD) wC9 wM9).symm hD
  refine lv_istore (lv' := [(7, .int r8), (6, .int (nI k9)), (5, .int (nI (1 + 6 * j))), (0, .ref b), (1, .ref (o 0)), (2, .ref (u 0)), (3, .ref aJ), (4, .ref aD)]) hx hb dL_law_447 hl (by decide) rfl (fun ls hl => ?_)
  rcases Nat.eq_zero_or_pos k9 with hkz | hkz
  · subst hkz
    obtain ⟨hg, hwC2⟩ := hk0 rfl
    obtain ⟨hr8, hwM2⟩ := hm0 rfl
    have hpp := cdR_0 hk9 rfl
    have hl : lv_has ls 10 [(7, .int r8), (6, .int (nI 0)), (5, .int (nI (1 + 6 * j))), (0, .ref b), (1, .ref (o 0)), (2, .ref (u 0)), (3, .ref aJ), (4, .ref aD)] := hl
    refine lv_aload_n hx hb dL_law_449 rfl (lv_at hl 5 rfl) ?_
    have hPm : va_P D vwCl wM9 H := lz_cutP (lw_pM (eJ cJ aJ g) (eD cD aD fD) wC9 wM9) hP
    have hDm : va_D (lwA s) wM9 := lz_cutD (lw_pM (eJ cJ aJ g) (eD cD aD fD) wC9 wM9) hD
    obtain ⟨r1, r2, r3, f1, f2, f3, f4, k1, kc, -, -, -, hwe2⟩ := id hwM2
    have hPr := id hPm
    rw [hwe2] at hPr
    refine vp_callSi (lz_runV (C := RX4) (As := []) (rest := []) hC hS hl (c_X4_thrown hwM2) (cwV 0 hts gL_law_X4_thrown rfl rfl rfl (by decide +kernel) ⟨Nat.le_of_ble_eq_true rfl, Nat.le_of_ble_eq_true rfl⟩) hPm hDm (va_recv hK hPr (ci := 4) (q0 := 0) rfl rfl) rfl rfl (Nat.le_of_ble_eq_true rfl) dL_law_450 ⟨by show _ ≤ 601024; omega, by show _ ≤ 7293000; omega⟩).run (fun r7 hr7 => ?_)
    subst hr7
    refine lv_iload hx hb dL_law_453 (lv_at hl 1 rfl) ?_
    refine lv_icmp_eq (tgt := 460) hx hb dL_law_455 (by decide) (fun c_1 => ?_) (fun c_1 => absurd rfl c_1)
    refine lv_iload hx hb dL_law_460 (lv_at hl 1 rfl) ?_
    refine lv_if_ne (tgt := 477) hx hb dL_law_462 (by decide) (fun c_2 => absurd nI_0 c_2) (fun c_2 => ?_)
    refine lv_aload_n hx hb dL_law_465 rfl (lv_at hl 6 rfl) ?_
    refine lv_iconst (v := nI 0) hx hb dL_law_466 (by decide) ?_
    refine lz_lald hx hb hKJ hP dL_law_467 ?_
    refine lv_iload hx hb dL_law_468 (lv_at hl 0 rfl) ?_
    refine lv_i2l (v := r8.toInt64) hx hb dL_law_470 rfl ?_
    refine W.lcmp hx hb dL_law_471 ?_
    have hve : r8 = nI (cq (insN rins (inN (sT x) (xs ((1 + 6 * j) + 1)) (xs ((1 + 6 * j) + 2)) (xs ((1 + 6 * j) + 4)) (FP.fmul (FP.i2f (xs ((1 + 6 * j) + 5))) c8)) (tn (xs ((1 + 6 * j) + 3))) (sL x)) (sT x : Int)) := hr8.trans (congrArg nI ((hLR.ins hs _ _).cqe _).symm)
    refine lv_if_eq (tgt := 477) hx hb dL_law_472 (by decide) (fun c_3 => ?_) (fun c_3 => absurd (by rw [hg, hve]; exact lg_self _) c_3)
    refine lv_goto (tgt := 1310) hx hb dL_law_477 (by decide) ?_
    exact hN ev R (stL x (insN rins (inN (sT x) (xs ((1 + 6 * j) + 1)) (xs ((1 + 6 * j) + 2)) (xs ((1 + 6 * j) + 4)) (FP.fmul (FP.i2f (xs ((1 + 6 * j) + 5))) c8)) (tn (xs ((1 + 6 * j) + 3))) (sL x))) _ _ wC9 wM9 g fD ⟨hwC2, hwM2, hR.stL (hLR.ins hs _ _), Ok_L hOk (insN_in hL9 _ (by have h1 := hpp.2.2; have h2 := hpp.2.1.1; show (xs ((1 + 6 * j) + 3)).toInt.toNat + (sL x).length ≤ 512; omega) (fun i hi9 => by have h2 := hpp.2.1; have h3 := ev_in (m := (xs ((1 + 6 * j) + 3)).toInt.toNat) hpp.1.1 (by have h4 := hpp.1.2 h2.1; rw [show (((xs ((1 + 6 * j) + 3)).toInt.toNat : Nat) : Int) = (xs ((1 + 6 * j) + 3)).toInt by omega]; exact h4) hi9; exact ⟨by show sT x < 2 ^ 30; omega, by show ((xs ((1 + 6 * j) + 1)).toInt + (i : Int) * (xs ((1 + 6 * j) + 2)).toInt).toNat < n; omega, by have h5 := h2.2.1; show (xs ((1 + 6 * j) + 4)).toInt.toNat ≤ 2; omega, inF_F cN_F cP_F h2.2.2⟩)), insN_srt hs _, by show sT x ≤ _; omega⟩ H locs ls hP hD hS (lv_sub hl [2, 3, 4, 5, 6, 7] rfl)
  · have hwC2 := hk1 (by omega)
    have hwM2 := hm1 (by omega)
    have hl : lv_has ls 10 [(7, .int r8), (6, .int (nI k9)), (5, .int (nI (1 + 6 * j))), (0, .ref b), (1, .ref (o 0)), (2, .ref (u 0)), (3, .ref aJ), (4, .ref aD)] := hl
    refine lv_aload_n hx hb dL_law_449 rfl (lv_at hl 5 rfl) ?_
    have hPm : va_P D vwCl wM9 H := lz_cutP (lw_pM (eJ cJ aJ g) (eD cD aD fD) wC9 wM9) hP
    have hDm : va_D (lwA s) wM9 := lz_cutD (lw_pM (eJ cJ aJ g) (eD cD aD fD) wC9 wM9) hD
    obtain ⟨r1, r2, r3, f1, f2, f3, f4, k1, kc, -, -, -, hwe2⟩ := id hwM2
    have hPr := id hPm
    rw [hwe2] at hPr
    refine vp_callSi (lz_runV (C := RX4) (As := []) (rest := []) hC hS hl (c_X4_thrown hwM2) (cwV 0 hts gL_law_X4_thrown rfl rfl rfl (by decide +kernel) ⟨Nat.le_of_ble_eq_true rfl, Nat.le_of_ble_eq_true rfl⟩) hPm hDm (va_recv hK hPr (ci := 4) (q0 := 0) rfl rfl) rfl rfl (Nat.le_of_ble_eq_true rfl) dL_law_450 ⟨by show _ ≤ 601024; omega, by show _ ≤ 7293000; omega⟩).run (fun r7 hr7 => ?_)
    subst hr7
    refine lv_iload hx hb dL_law_453 (lv_at hl 1 rfl) ?_
    refine lv_icmp_eq (tgt := 460) hx hb dL_law_455 (by decide) (fun c_4 => ?_) (fun c_4 => absurd rfl c_4)
    refine lv_iload hx hb dL_law_460 (lv_at hl 1 rfl) ?_
    refine lv_if_ne (tgt := 477) hx hb dL_law_462 (by decide) (fun c_5 => ?_) (fun c_5 => absurd c_5 (fun q9 => absurd ((iz_ne0 (by omega)).mp q9) (by omega)))
    refine lv_goto (tgt := 1310) hx hb dL_law_477 (by decide) ?_
    exact hN ev R x (stL x M) _ wC9 wM9 g fD ⟨hwC2, hwM2, hR, hOk, hs, by omega⟩ H locs ls hP hD hS (lv_sub hl [2, 3, 4, 5, 6, 7] rfl)

set_option maxRecDepth 100000 in
set_option maxHeartbeats 4000000 in
/-- case 4: step -/
theorem law_4 {p : Program} {l : Launch} {e : Env} {m : MethodId} {c : Code} {s : State} {below : List Frame} {meth : Method} {b L : Nat} {xs : Nat → Int32} {D : va_G} {cI cF cQ cJ cD : ClassId} {aT : Nat} {o u : Nat → Nat} {aJ aD n j ev : Nat} {R : List dI} {x y : St} {th : Int32} {wC wM : va_W} {fJ : Nat → Int64} {fD : Nat → UInt64} {H : Heap} {locs : List Loc} {ls : Array Slot} (h0 : lwC p l m c s b L xs D cI cF cQ cJ cD aT) (hj : j ≤ 511) (hi : 1 + 6 * j + 6 ≤ L) (hN : lwN p l e m c s below meth b D cI cF cQ cJ cD o u aJ aD n j) (hI : LI cI cF cQ o u n j ev R x y th wC wM) (hP : va_P D vwCl (eJ cJ aJ fJ :: eD cD aD fD :: (wC ++ wM)) H) (hD : va_D (lwA s) (eJ cJ aJ fJ :: eD cD aD fD :: (wC ++ wM))) (hS : va_S (lwA s) s.heap H locs) (hl : lv_has ls 10 (lwL b (o 0) (u 0) aJ aD (1 + 6 * j))) : W p l e room_1 s m #[Value.ref b] below meth c H locs (46 + 8 * j) (13635 + 48 * j) (lw_Z below #[Value.ref b] s) (F0 m 480 ls []) := by
  obtain ⟨hC, hKJ, hX, hbl, hL⟩ := id h0
  have hx := hC.1.1
  have hb := hC.1.2.1
  have hml := hC.1.2.2.1
  have hown : s.vm.findClass RL = some m.cls := hC.1.2.2.2.1
  have hts := hC.1.2.2.2.2
  have hA := hC.2.1
  have hK := hC.2.2.2.1
  have hbA : ¬ lwA s b := Nat.not_le.mpr hbl
  obtain ⟨hwC, hwM, hR, hOk, hs, hT⟩ := id hI
  obtain ⟨M, rfl, hLR⟩ := rel_eq hR
  have hOkY := hR.ok hOk
  have hn9 := hOk.1.2
  have hL9 : rIn n (sL x) := hOk.2.2.2.2.2.1
  have hT9 : sT x ≤ 64 * 511 := by omega
  have hl : lv_has ls 10 [(5, .int (nI (1 + 6 * j))), (0, .ref b), (1, .ref (o 0)), (2, .ref (u 0)), (3, .ref aJ), (4, .ref aD)] := hl
  refine lv_aload_n hx hb dL_law_480 rfl (lv_at hl 2 rfl) ?_
  refine lv_aload_n hx hb dL_law_481 rfl (lv_at hl 1 rfl) ?_
  refine lv_iload hx hb dL_law_482 (lv_at hl 0 rfl) ?_
  refine lv_iconst (v := nI 1) hx hb dL_law_484 (by decide) ?_
  refine lv_iadd hx hb dL_law_485 ?_
  refine lz_i (nI_add _ _) ?_
  refine lz_sld hx hb hX hbl hbA hS (k := ((1 + 6 * j) + 1)) (by omega) (by omega) dL_law_486 ?_
  refine lv_aload_n hx hb dL_law_487 rfl (lv_at hl 4 rfl) ?_
  have hPc : va_P D vwCl ((eJ cJ aJ fJ) :: wC) H := lz_cutP (lw_pJ (eJ cJ aJ fJ) (eD cD aD fD) wC wM) hP
  have hDc : va_D (lwA s) ((eJ cJ aJ fJ) :: wC) := lz_cutD (lw_pJ (eJ cJ aJ fJ) (eD cD aD fD) wC wM) hD
  refine lz_cMi (w2 := fun w1 => w1 ++ ((eD cD aD fD) :: wM)) (lz_runSH (As := [.ref (o 0), .int (xs ((1 + 6 * j) + 1)), .ref aJ]) (rest := []) hC hKJ hS hl (c_L_step (by omega) hwC hOk hs) (vx_cwSW 3 hts gL_law_L_step rfl rfl rfl (by decide +kernel) ⟨Nat.le_of_ble_eq_true rfl, Nat.le_of_ble_eq_true rfl⟩) hPc hDc rfl rfl (Nat.le_of_ble_eq_true rfl) dL_law_488 ⟨by show _ ≤ 601024; omega, by show _ ≤ 7293000; omega⟩) hP hD hS hA (lw_pJ (eJ cJ aJ fJ) (eD cD aD fD) wC wM) (fun r w1 h => by obtain ⟨k, wC9, g, -, -, rfl, h0, h1⟩ := h; exact congrArg (List.cons aJ) ((Nat.eq_zero_or_pos k).elim (fun hk => (h0 hk).2.ad2 hwC) (fun hk => (h1 (by omega)).ad2 hwC))) (fun _ => List.Perm.refl _) (fun r9 w1 H locs hpo hP hD hS => ?_)
  obtain ⟨k9, wC9, g, rfl, hk9, rfl, hk0, hk1⟩ := hpo
  replace hP := lz_permP (lw_pJ (eJ cJ aJ g) (eD cD aD fD) wC9 wM).symm hP
  replace hD := lz_permD (lw_pJ (eJ cJ aJ g) (eD cD aD fD) wC9 wM).symm hD
  refine lv_istore (lv' := [(6, .int (nI k9)), (5, .int (nI (1 + 6 * j))), (0, .ref b), (1, .ref (o 0)), (2, .ref (u 0)), (3, .ref aJ), (4, .ref aD)]) hx hb dL_law_491 hl (by decide) rfl (fun ls hl => ?_)
  refine lv_aload_n hx hb dL_law_493 rfl (lv_at hl 4 rfl) ?_
  refine lv_aload_n hx hb dL_law_494 rfl (lv_at hl 2 rfl) ?_
  refine lv_iload hx hb dL_law_495 (lv_at hl 1 rfl) ?_
  refine lv_iconst (v := nI 1) hx hb dL_law_497 (by decide) ?_
  refine lv_iadd hx hb dL_law_498 ?_
  refine lz_i (nI_add _ _) ?_
  refine lz_sld hx hb hX hbl hbA hS (k := ((1 + 6 * j) + 1)) (by omega) (by omega) dL_law_499 ?_
  have hPm : va_P D vwCl wM H := lz_cutP (lw_pM (eJ cJ aJ g) (eD cD aD fD) wC9 wM) hP
  have hDm : va_D (lwA s) wM := lz_cutD (lw_pM (eJ cJ aJ g) (eD cD aD fD) wC9 wM) hD
  obtain ⟨r1, r2, r3, f1, f2, f3, f4, k1, kc, -, -, -, hwe⟩ := id hwM
  have hPr := id hPm
  rw [hwe] at hPr
  refine lz_cMi (w2 := fun w1 => w1 ++ (eJ cJ aJ g :: eD cD aD fD :: wC9)) (lz_runV (C := RX4) (As := [.int (xs ((1 + 6 * j) + 1))]) (rest := []) hC hS hl (c_X4_step (by show sT x + 64 < 2 ^ 29; omega) hwM hOkY) (cwV 1 hts gL_law_X4_step rfl rfl rfl (by decide +kernel) ⟨Nat.le_of_ble_eq_true rfl, Nat.le_of_ble_eq_true rfl⟩) hPm hDm (va_recv hK hPr (ci := 4) (q0 := 0) rfl rfl) rfl rfl (Nat.le_of_ble_eq_true rfl) dL_law_500 ⟨by show _ ≤ 601024; omega, by show _ ≤ 7293000; omega⟩) hP hD hS hA (lw_pM (eJ cJ aJ g) (eD cD aD fD) wC9 wM) (fun r w1 h => by obtain ⟨k, -, h0, h1⟩ := h; exact (Nat.eq_zero_or_pos k).elim (fun hk => (h0 hk).2.ad2 hwM) (fun hk => (h1 (by omega)).ad2 hwM)) (fun _ => List.Perm.refl _) (fun r8 wM9 H locs hpo hP hD hS => ?_)
  obtain ⟨k8, hk8, hm0, hm1⟩ := hpo
  have hk7 : cdR (1 ≤ (xs ((1 + 6 * j) + 1)).toInt ∧ (xs ((1 + 6 * j) + 1)).toInt ≤ 64) True True k8 := cdR_iff Iff.rfl Iff.rfl Iff.rfl hk8
  have hkk : k9 = k8 := cdR_fun hk9 hk7
  subst hkk
  have hlt := cdR_lt hk9
  replace hP := lz_permP (lw_pM (eJ cJ aJ g) (eD cD aD fD) wC9 wM9).symm hP
  replace hD := lz_permD (lw_pM (eJ cJ aJ g) (eD cD aD fD) wC9 wM9).symm hD
  refine lv_istore (lv' := [(7, .int r8), (6, .int (nI k9)), (5, .int (nI (1 + 6 * j))), (0, .ref b), (1, .ref (o 0)), (2, .ref (u 0)), (3, .ref aJ), (4, .ref aD)]) hx hb dL_law_503 hl (by decide) rfl (fun ls hl => ?_)
  rcases Nat.eq_zero_or_pos k9 with hkz | hkz
  · subst hkz
    obtain ⟨hg, hwC2⟩ := hk0 rfl
    obtain ⟨hr8, hwM2⟩ := hm0 rfl
    have hpp := cdR_0 hk9 rfl
    have hl : lv_has ls 10 [(7, .int r8), (6, .int (nI 0)), (5, .int (nI (1 + 6 * j))), (0, .ref b), (1, .ref (o 0)), (2, .ref (u 0)), (3, .ref aJ), (4, .ref aD)] := hl
    refine lv_aload_n hx hb dL_law_505 rfl (lv_at hl 5 rfl) ?_
    have hPm : va_P D vwCl wM9 H := lz_cutP (lw_pM (eJ cJ aJ g) (eD cD aD fD) wC9 wM9) hP
    have hDm : va_D (lwA s) wM9 := lz_cutD (lw_pM (eJ cJ aJ g) (eD cD aD fD) wC9 wM9) hD
    obtain ⟨r1, r2, r3, f1, f2, f3, f4, k1, kc, -, -, -, hwe2⟩ := id hwM2
    have hPr := id hPm
    rw [hwe2] at hPr
    refine vp_callSi (lz_runV (C := RX4) (As := []) (rest := []) hC hS hl (c_X4_thrown hwM2) (cwV 0 hts gL_law_X4_thrown rfl rfl rfl (by decide +kernel) ⟨Nat.le_of_ble_eq_true rfl, Nat.le_of_ble_eq_true rfl⟩) hPm hDm (va_recv hK hPr (ci := 4) (q0 := 0) rfl rfl) rfl rfl (Nat.le_of_ble_eq_true rfl) dL_law_506 ⟨by show _ ≤ 601024; omega, by show _ ≤ 7293000; omega⟩).run (fun r7 hr7 => ?_)
    subst hr7
    refine lv_iload hx hb dL_law_509 (lv_at hl 1 rfl) ?_
    refine lv_icmp_eq (tgt := 516) hx hb dL_law_511 (by decide) (fun c_1 => ?_) (fun c_1 => absurd rfl c_1)
    refine lv_iload hx hb dL_law_516 (lv_at hl 1 rfl) ?_
    refine lv_if_ne (tgt := 533) hx hb dL_law_518 (by decide) (fun c_2 => absurd nI_0 c_2) (fun c_2 => ?_)
    refine lv_aload_n hx hb dL_law_521 rfl (lv_at hl 6 rfl) ?_
    refine lv_iconst (v := nI 0) hx hb dL_law_522 (by decide) ?_
    refine lz_lald hx hb hKJ hP dL_law_523 ?_
    refine lv_iload hx hb dL_law_524 (lv_at hl 0 rfl) ?_
    refine lv_i2l (v := r8.toInt64) hx hb dL_law_526 rfl ?_
    refine W.lcmp hx hb dL_law_527 ?_
    have hve : r8 = nI (sT x + tn (xs ((1 + 6 * j) + 1))) := hr8.trans rfl
    refine lv_if_eq (tgt := 533) hx hb dL_law_528 (by decide) (fun c_3 => ?_) (fun c_3 => absurd (by rw [hg, hve]; exact lg_self _) c_3)
    refine lv_goto (tgt := 1310) hx hb dL_law_533 (by decide) ?_
    exact hN ev R (stps R ev (tn (xs ((1 + 6 * j) + 1))) x) _ _ wC9 wM9 g fD ⟨hwC2, hwM2, Rel.stps _ hR, stps_ok _ hOk (by have := hpp.1; show sT x + (xs ((1 + 6 * j) + 1)).toInt.toNat < 2 ^ 29; omega), stps_srt _ hs, by rw [stps_T]; have := hpp.1; show sT x + (xs ((1 + 6 * j) + 1)).toInt.toNat ≤ _; omega⟩ H locs ls hP hD hS (lv_sub hl [2, 3, 4, 5, 6, 7] rfl)
  · have hwC2 := hk1 (by omega)
    have hwM2 := hm1 (by omega)
    have hl : lv_has ls 10 [(7, .int r8), (6, .int (nI k9)), (5, .int (nI (1 + 6 * j))), (0, .ref b), (1, .ref (o 0)), (2, .ref (u 0)), (3, .ref aJ), (4, .ref aD)] := hl
    refine lv_aload_n hx hb dL_law_505 rfl (lv_at hl 5 rfl) ?_
    have hPm : va_P D vwCl wM9 H := lz_cutP (lw_pM (eJ cJ aJ g) (eD cD aD fD) wC9 wM9) hP
    have hDm : va_D (lwA s) wM9 := lz_cutD (lw_pM (eJ cJ aJ g) (eD cD aD fD) wC9 wM9) hD
    obtain ⟨r1, r2, r3, f1, f2, f3, f4, k1, kc, -, -, -, hwe2⟩ := id hwM2
    have hPr := id hPm
    rw [hwe2] at hPr
    refine vp_callSi (lz_runV (C := RX4) (As := []) (rest := []) hC hS hl (c_X4_thrown hwM2) (cwV 0 hts gL_law_X4_thrown rfl rfl rfl (by decide +kernel) ⟨Nat.le_of_ble_eq_true rfl, Nat.le_of_ble_eq_true rfl⟩) hPm hDm (va_recv hK hPr (ci := 4) (q0 := 0) rfl rfl) rfl rfl (Nat.le_of_ble_eq_true rfl) dL_law_506 ⟨by show _ ≤ 601024; omega, by show _ ≤ 7293000; omega⟩).run (fun r7 hr7 => ?_)
    subst hr7
    refine lv_iload hx hb dL_law_509 (lv_at hl 1 rfl) ?_
    refine lv_icmp_eq (tgt := 516) hx hb dL_law_511 (by decide) (fun c_4 => ?_) (fun c_4 => absurd rfl c_4)
    refine lv_iload hx hb dL_law_516 (lv_at hl 1 rfl) ?_
    refine lv_if_ne (tgt := 533) hx hb dL_law_518 (by decide) (fun c_5 => ?_) (fun c_5 => absurd c_5 (fun q9 => absurd ((iz_ne0 (by omega)).mp q9) (by omega)))
    refine lv_goto (tgt := 1310) hx hb dL_law_533 (by decide) ?_
    exact hN ev R x (stL x M) _ wC9 wM9 g fD ⟨hwC2, hwM2, hR, hOk, hs, by omega⟩ H locs ls hP hD hS (lv_sub hl [2, 3, 4, 5, 6, 7] rfl)

set_option maxRecDepth 100000 in
set_option maxHeartbeats 4000000 in
/-- case 6: back -/
theorem law_6 {p : Program} {l : Launch} {e : Env} {m : MethodId} {c : Code} {s : State} {below : List Frame} {meth : Method} {b L : Nat} {xs : Nat → Int32} {D : va_G} {cI cF cQ cJ cD : ClassId} {aT : Nat} {o u : Nat → Nat} {aJ aD n j ev : Nat} {R : List dI} {x y : St} {th : Int32} {wC wM : va_W} {fJ : Nat → Int64} {fD : Nat → UInt64} {H : Heap} {locs : List Loc} {ls : Array Slot} (h0 : lwC p l m c s b L xs D cI cF cQ cJ cD aT) (hj : j ≤ 511) (hi : 1 + 6 * j + 6 ≤ L) (hN : lwN p l e m c s below meth b D cI cF cQ cJ cD o u aJ aD n j) (hI : LI cI cF cQ o u n j ev R x y th wC wM) (hP : va_P D vwCl (eJ cJ aJ fJ :: eD cD aD fD :: (wC ++ wM)) H) (hD : va_D (lwA s) (eJ cJ aJ fJ :: eD cD aD fD :: (wC ++ wM))) (hS : va_S (lwA s) s.heap H locs) (hl : lv_has ls 10 (lwL b (o 0) (u 0) aJ aD (1 + 6 * j))) : W p l e room_1 s m #[Value.ref b] below meth c H locs (46 + 8 * j) (13635 + 48 * j) (lw_Z below #[Value.ref b] s) (F0 m 549 ls []) := by
  obtain ⟨hC, hKJ, hX, hbl, hL⟩ := id h0
  have hx := hC.1.1
  have hb := hC.1.2.1
  have hml := hC.1.2.2.1
  have hown : s.vm.findClass RL = some m.cls := hC.1.2.2.2.1
  have hts := hC.1.2.2.2.2
  have hA := hC.2.1
  have hK := hC.2.2.2.1
  have hbA : ¬ lwA s b := Nat.not_le.mpr hbl
  obtain ⟨hwC, hwM, hR, hOk, hs, hT⟩ := id hI
  obtain ⟨M, rfl, hLR⟩ := rel_eq hR
  have hOkY := hR.ok hOk
  have hn9 := hOk.1.2
  have hL9 : rIn n (sL x) := hOk.2.2.2.2.2.1
  have hT9 : sT x ≤ 64 * 511 := by omega
  have hl : lv_has ls 10 [(5, .int (nI (1 + 6 * j))), (0, .ref b), (1, .ref (o 0)), (2, .ref (u 0)), (3, .ref aJ), (4, .ref aD)] := hl
  refine lv_aload_n hx hb dL_law_549 rfl (lv_at hl 2 rfl) ?_
  refine lv_aload_n hx hb dL_law_550 rfl (lv_at hl 1 rfl) ?_
  refine lv_iload hx hb dL_law_551 (lv_at hl 0 rfl) ?_
  refine lv_iconst (v := nI 1) hx hb dL_law_553 (by decide) ?_
  refine lv_iadd hx hb dL_law_554 ?_
  refine lz_i (nI_add _ _) ?_
  refine lz_sld hx hb hX hbl hbA hS (k := ((1 + 6 * j) + 1)) (by omega) (by omega) dL_law_555 ?_
  refine lv_aload_n hx hb dL_law_556 rfl (lv_at hl 4 rfl) ?_
  have hPc : va_P D vwCl ((eJ cJ aJ fJ) :: wC) H := lz_cutP (lw_pJ (eJ cJ aJ fJ) (eD cD aD fD) wC wM) hP
  have hDc : va_D (lwA s) ((eJ cJ aJ fJ) :: wC) := lz_cutD (lw_pJ (eJ cJ aJ fJ) (eD cD aD fD) wC wM) hD
  refine lz_cMi (w2 := fun w1 => w1 ++ ((eD cD aD fD) :: wM)) (lz_runSH (As := [.ref (o 0), .int (xs ((1 + 6 * j) + 1)), .ref aJ]) (rest := []) hC hKJ hS hl (c_L_back hwC hOk hs) (vx_cwSW 3 hts gL_law_L_back rfl rfl rfl (by decide +kernel) ⟨Nat.le_of_ble_eq_true rfl, Nat.le_of_ble_eq_true rfl⟩) hPc hDc rfl rfl (Nat.le_of_ble_eq_true rfl) dL_law_557 ⟨by show _ ≤ 601024; omega, by show _ ≤ 7293000; omega⟩) hP hD hS hA (lw_pJ (eJ cJ aJ fJ) (eD cD aD fD) wC wM) (fun r w1 h => by obtain ⟨k, wC9, g, -, -, rfl, h0, h1⟩ := h; exact congrArg (List.cons aJ) ((Nat.eq_zero_or_pos k).elim (fun hk => (h0 hk).2.ad2 hwC) (fun hk => (h1 (by omega)).ad2 hwC))) (fun _ => List.Perm.refl _) (fun r9 w1 H locs hpo hP hD hS => ?_)
  obtain ⟨k9, wC9, g, rfl, hk9, rfl, hk0, hk1⟩ := hpo
  replace hP := lz_permP (lw_pJ (eJ cJ aJ g) (eD cD aD fD) wC9 wM).symm hP
  replace hD := lz_permD (lw_pJ (eJ cJ aJ g) (eD cD aD fD) wC9 wM).symm hD
  refine lv_istore (lv' := [(6, .int (nI k9)), (5, .int (nI (1 + 6 * j))), (0, .ref b), (1, .ref (o 0)), (2, .ref (u 0)), (3, .ref aJ), (4, .ref aD)]) hx hb dL_law_560 hl (by decide) rfl (fun ls hl => ?_)
  refine lv_aload_n hx hb dL_law_562 rfl (lv_at hl 4 rfl) ?_
  refine lv_aload_n hx hb dL_law_563 rfl (lv_at hl 2 rfl) ?_
  refine lv_iload hx hb dL_law_564 (lv_at hl 1 rfl) ?_
  refine lv_iconst (v := nI 1) hx hb dL_law_566 (by decide) ?_
  refine lv_iadd hx hb dL_law_567 ?_
  refine lz_i (nI_add _ _) ?_
  refine lz_sld hx hb hX hbl hbA hS (k := ((1 + 6 * j) + 1)) (by omega) (by omega) dL_law_568 ?_
  have hPm : va_P D vwCl wM H := lz_cutP (lw_pM (eJ cJ aJ g) (eD cD aD fD) wC9 wM) hP
  have hDm : va_D (lwA s) wM := lz_cutD (lw_pM (eJ cJ aJ g) (eD cD aD fD) wC9 wM) hD
  obtain ⟨r1, r2, r3, f1, f2, f3, f4, k1, kc, -, -, -, hwe⟩ := id hwM
  have hPr := id hPm
  rw [hwe] at hPr
  refine lz_cMi (w2 := fun w1 => w1 ++ (eJ cJ aJ g :: eD cD aD fD :: wC9)) (lz_runV (C := RX4) (As := [.int (xs ((1 + 6 * j) + 1))]) (rest := []) hC hS hl (c_X4_back hwM hOkY) (cwV 1 hts gL_law_X4_back rfl rfl rfl (by decide +kernel) ⟨Nat.le_of_ble_eq_true rfl, Nat.le_of_ble_eq_true rfl⟩) hPm hDm (va_recv hK hPr (ci := 4) (q0 := 0) rfl rfl) rfl rfl (Nat.le_of_ble_eq_true rfl) dL_law_569 ⟨by show _ ≤ 601024; omega, by show _ ≤ 7293000; omega⟩) hP hD hS hA (lw_pM (eJ cJ aJ g) (eD cD aD fD) wC9 wM) (fun r w1 h => by obtain ⟨k, -, h0, h1⟩ := h; exact (Nat.eq_zero_or_pos k).elim (fun hk => (h0 hk).2.ad2 hwM) (fun hk => (h1 (by omega)).ad2 hwM)) (fun _ => List.Perm.refl _) (fun r8 wM9 H locs hpo hP hD hS => ?_)
  obtain ⟨k8, hk8, hm0, hm1⟩ := hpo
  have hk7 : cdR (plc (sS x) (xs ((1 + 6 * j) + 1)).toInt ≠ none) True True k8 := cdR_iff Iff.rfl Iff.rfl Iff.rfl hk8
  have hkk : k9 = k8 := cdR_fun hk9 hk7
  subst hkk
  have hlt := cdR_lt hk9
  replace hP := lz_permP (lw_pM (eJ cJ aJ g) (eD cD aD fD) wC9 wM9).symm hP
  replace hD := lz_permD (lw_pM (eJ cJ aJ g) (eD cD aD fD) wC9 wM9).symm hD
  refine lv_istore (lv' := [(7, .int r8), (6, .int (nI k9)), (5, .int (nI (1 + 6 * j))), (0, .ref b), (1, .ref (o 0)), (2, .ref (u 0)), (3, .ref aJ), (4, .ref aD)]) hx hb dL_law_572 hl (by decide) rfl (fun ls hl => ?_)
  rcases Nat.eq_zero_or_pos k9 with hkz | hkz
  · subst hkz
    obtain ⟨hg, hwC2⟩ := hk0 rfl
    obtain ⟨hr8, hwM2⟩ := hm0 rfl
    have hpp := cdR_0 hk9 rfl
    have hl : lv_has ls 10 [(7, .int r8), (6, .int (nI 0)), (5, .int (nI (1 + 6 * j))), (0, .ref b), (1, .ref (o 0)), (2, .ref (u 0)), (3, .ref aJ), (4, .ref aD)] := hl
    refine lv_aload_n hx hb dL_law_574 rfl (lv_at hl 5 rfl) ?_
    have hPm : va_P D vwCl wM9 H := lz_cutP (lw_pM (eJ cJ aJ g) (eD cD aD fD) wC9 wM9) hP
    have hDm : va_D (lwA s) wM9 := lz_cutD (lw_pM (eJ cJ aJ g) (eD cD aD fD) wC9 wM9) hD
    obtain ⟨r1, r2, r3, f1, f2, f3, f4, k1, kc, -, -, -, hwe2⟩ := id hwM2
    have hPr := id hPm
    rw [hwe2] at hPr
    refine vp_callSi (lz_runV (C := RX4) (As := []) (rest := []) hC hS hl (c_X4_thrown hwM2) (cwV 0 hts gL_law_X4_thrown rfl rfl rfl (by decide +kernel) ⟨Nat.le_of_ble_eq_true rfl, Nat.le_of_ble_eq_true rfl⟩) hPm hDm (va_recv hK hPr (ci := 4) (q0 := 0) rfl rfl) rfl rfl (Nat.le_of_ble_eq_true rfl) dL_law_575 ⟨by show _ ≤ 601024; omega, by show _ ≤ 7293000; omega⟩).run (fun r7 hr7 => ?_)
    subst hr7
    refine lv_iload hx hb dL_law_578 (lv_at hl 1 rfl) ?_
    refine lv_icmp_eq (tgt := 585) hx hb dL_law_580 (by decide) (fun c_1 => ?_) (fun c_1 => absurd rfl c_1)
    refine lv_iload hx hb dL_law_585 (lv_at hl 1 rfl) ?_
    refine lv_if_ne (tgt := 602) hx hb dL_law_587 (by decide) (fun c_2 => absurd nI_0 c_2) (fun c_2 => ?_)
    refine lv_aload_n hx hb dL_law_590 rfl (lv_at hl 6 rfl) ?_
    refine lv_iconst (v := nI 0) hx hb dL_law_591 (by decide) ?_
    refine lz_lald hx hb hKJ hP dL_law_592 ?_
    refine lv_iload hx hb dL_law_593 (lv_at hl 0 rfl) ?_
    refine lv_i2l (v := r8.toInt64) hx hb dL_law_595 rfl ?_
    refine W.lcmp hx hb dL_law_596 ?_
    have hve : r8 = bkv (sS x) (xs ((1 + 6 * j) + 1)).toInt := hr8.trans rfl
    refine lv_if_eq (tgt := 602) hx hb dL_law_597 (by decide) (fun c_3 => ?_) (fun c_3 => absurd (by rw [hg, hve]; exact lg_self _) c_3)
    refine lv_goto (tgt := 1310) hx hb dL_law_602 (by decide) ?_
    exact hN ev R (gbz n x (xs ((1 + 6 * j) + 1)).toInt) _ _ wC9 wM9 g fD ⟨hwC2, hwM2, hR.gz n _, (gbz_ok hOk hs _).1, (gbz_ok hOk hs _).2.1, Nat.le_trans (gbz_ok hOk hs _).2.2 (by omega)⟩ H locs ls hP hD hS (lv_sub hl [2, 3, 4, 5, 6, 7] rfl)
  · have hwC2 := hk1 (by omega)
    have hwM2 := hm1 (by omega)
    have hl : lv_has ls 10 [(7, .int r8), (6, .int (nI k9)), (5, .int (nI (1 + 6 * j))), (0, .ref b), (1, .ref (o 0)), (2, .ref (u 0)), (3, .ref aJ), (4, .ref aD)] := hl
    refine lv_aload_n hx hb dL_law_574 rfl (lv_at hl 5 rfl) ?_
    have hPm : va_P D vwCl wM9 H := lz_cutP (lw_pM (eJ cJ aJ g) (eD cD aD fD) wC9 wM9) hP
    have hDm : va_D (lwA s) wM9 := lz_cutD (lw_pM (eJ cJ aJ g) (eD cD aD fD) wC9 wM9) hD
    obtain ⟨r1, r2, r3, f1, f2, f3, f4, k1, kc, -, -, -, hwe2⟩ := id hwM2
    have hPr := id hPm
    rw [hwe2] at hPr
    refine vp_callSi (lz_runV (C := RX4) (As := []) (rest := []) hC hS hl (c_X4_thrown hwM2) (cwV 0 hts gL_law_X4_thrown rfl rfl rfl (by decide +kernel) ⟨Nat.le_of_ble_eq_true rfl, Nat.le_of_ble_eq_true rfl⟩) hPm hDm (va_recv hK hPr (ci := 4) (q0 := 0) rfl rfl) rfl rfl (Nat.le_of_ble_eq_true rfl) dL_law_575 ⟨by show _ ≤ 601024; omega, by show _ ≤ 7293000; omega⟩).run (fun r7 hr7 => ?_)
    subst hr7
    refine lv_iload hx hb dL_law_578 (lv_at hl 1 rfl) ?_
    refine lv_icmp_eq (tgt := 585) hx hb dL_law_580 (by decide) (fun c_4 => ?_) (fun c_4 => absurd rfl c_4)
    refine lv_iload hx hb dL_law_585 (lv_at hl 1 rfl) ?_
    refine lv_if_ne (tgt := 602) hx hb dL_law_587 (by decide) (fun c_5 => ?_) (fun c_5 => absurd c_5 (fun q9 => absurd ((iz_ne0 (by omega)).mp q9) (by omega)))
    refine lv_goto (tgt := 1310) hx hb dL_law_602 (by decide) ?_
    exact hN ev R x (stL x M) _ wC9 wM9 g fD ⟨hwC2, hwM2, hR, hOk, hs, by omega⟩ H locs ls hP hD hS (lv_sub hl [2, 3, 4, 5, 6, 7] rfl)

set_option maxRecDepth 100000 in
set_option maxHeartbeats 4000000 in
/-- case 7: forget -/
theorem law_7 {p : Program} {l : Launch} {e : Env} {m : MethodId} {c : Code} {s : State} {below : List Frame} {meth : Method} {b L : Nat} {xs : Nat → Int32} {D : va_G} {cI cF cQ cJ cD : ClassId} {aT : Nat} {o u : Nat → Nat} {aJ aD n j ev : Nat} {R : List dI} {x y : St} {th : Int32} {wC wM : va_W} {fJ : Nat → Int64} {fD : Nat → UInt64} {H : Heap} {locs : List Loc} {ls : Array Slot} (h0 : lwC p l m c s b L xs D cI cF cQ cJ cD aT) (hj : j ≤ 511) (hi : 1 + 6 * j + 6 ≤ L) (hN : lwN p l e m c s below meth b D cI cF cQ cJ cD o u aJ aD n j) (hI : LI cI cF cQ o u n j ev R x y th wC wM) (hP : va_P D vwCl (eJ cJ aJ fJ :: eD cD aD fD :: (wC ++ wM)) H) (hD : va_D (lwA s) (eJ cJ aJ fJ :: eD cD aD fD :: (wC ++ wM))) (hS : va_S (lwA s) s.heap H locs) (hl : lv_has ls 10 (lwL b (o 0) (u 0) aJ aD (1 + 6 * j))) : W p l e room_1 s m #[Value.ref b] below meth c H locs (46 + 8 * j) (13635 + 48 * j) (lw_Z below #[Value.ref b] s) (F0 m 605 ls []) := by
  obtain ⟨hC, hKJ, hX, hbl, hL⟩ := id h0
  have hx := hC.1.1
  have hb := hC.1.2.1
  have hml := hC.1.2.2.1
  have hown : s.vm.findClass RL = some m.cls := hC.1.2.2.2.1
  have hts := hC.1.2.2.2.2
  have hA := hC.2.1
  have hK := hC.2.2.2.1
  have hbA : ¬ lwA s b := Nat.not_le.mpr hbl
  obtain ⟨hwC, hwM, hR, hOk, hs, hT⟩ := id hI
  obtain ⟨M, rfl, hLR⟩ := rel_eq hR
  have hOkY := hR.ok hOk
  have hn9 := hOk.1.2
  have hL9 : rIn n (sL x) := hOk.2.2.2.2.2.1
  have hT9 : sT x ≤ 64 * 511 := by omega
  have hl : lv_has ls 10 [(5, .int (nI (1 + 6 * j))), (0, .ref b), (1, .ref (o 0)), (2, .ref (u 0)), (3, .ref aJ), (4, .ref aD)] := hl
  refine lv_aload_n hx hb dL_law_605 rfl (lv_at hl 2 rfl) ?_
  refine lv_aload_n hx hb dL_law_606 rfl (lv_at hl 1 rfl) ?_
  refine lv_iload hx hb dL_law_607 (lv_at hl 0 rfl) ?_
  refine lv_iconst (v := nI 1) hx hb dL_law_609 (by decide) ?_
  refine lv_iadd hx hb dL_law_610 ?_
  refine lz_i (nI_add _ _) ?_
  refine lz_sld hx hb hX hbl hbA hS (k := ((1 + 6 * j) + 1)) (by omega) (by omega) dL_law_611 ?_
  refine lv_aload_n hx hb dL_law_612 rfl (lv_at hl 4 rfl) ?_
  have hPc : va_P D vwCl ((eJ cJ aJ fJ) :: wC) H := lz_cutP (lw_pJ (eJ cJ aJ fJ) (eD cD aD fD) wC wM) hP
  have hDc : va_D (lwA s) ((eJ cJ aJ fJ) :: wC) := lz_cutD (lw_pJ (eJ cJ aJ fJ) (eD cD aD fD) wC wM) hD
  refine lz_cMi (w2 := fun w1 => w1 ++ ((eD cD aD fD) :: wM)) (lz_runSH (As := [.ref (o 0), .int (xs ((1 + 6 * j) + 1)), .ref aJ]) (rest := []) hC hKJ hS hl (c_L_forget hwC hOk hs) (vx_cwSW 3 hts gL_law_L_forget rfl rfl rfl (by decide +kernel) ⟨Nat.le_of_ble_eq_true rfl, Nat.le_of_ble_eq_true rfl⟩) hPc hDc rfl rfl (Nat.le_of_ble_eq_true rfl) dL_law_613 ⟨by show _ ≤ 601024; omega, by show _ ≤ 7293000; omega⟩) hP hD hS hA (lw_pJ (eJ cJ aJ fJ) (eD cD aD fD) wC wM) (fun r w1 h => by obtain ⟨k, wC9, g, -, -, rfl, h0, h1⟩ := h; exact congrArg (List.cons aJ) ((Nat.eq_zero_or_pos k).elim (fun hk => (h0 hk).2.ad2 hwC) (fun hk => (h1 (by omega)).ad2 hwC))) (fun _ => List.Perm.refl _) (fun r9 w1 H locs hpo hP hD hS => ?_)
  obtain ⟨k9, wC9, g, rfl, hk9, rfl, hk0, hk1⟩ := hpo
  replace hP := lz_permP (lw_pJ (eJ cJ aJ g) (eD cD aD fD) wC9 wM).symm hP
  replace hD := lz_permD (lw_pJ (eJ cJ aJ g) (eD cD aD fD) wC9 wM).symm hD
  refine lv_istore (lv' := [(6, .int (nI k9)), (5, .int (nI (1 + 6 * j))), (0, .ref b), (1, .ref (o 0)), (2, .ref (u 0)), (3, .ref aJ), (4, .ref aD)]) hx hb dL_law_616 hl (by decide) rfl (fun ls hl => ?_)
  refine lv_aload_n hx hb dL_law_618 rfl (lv_at hl 4 rfl) ?_
  refine lv_aload_n hx hb dL_law_619 rfl (lv_at hl 2 rfl) ?_
  refine lv_iload hx hb dL_law_620 (lv_at hl 1 rfl) ?_
  refine lv_iconst (v := nI 1) hx hb dL_law_622 (by decide) ?_
  refine lv_iadd hx hb dL_law_623 ?_
  refine lz_i (nI_add _ _) ?_
  refine lz_sld hx hb hX hbl hbA hS (k := ((1 + 6 * j) + 1)) (by omega) (by omega) dL_law_624 ?_
  have hPm : va_P D vwCl wM H := lz_cutP (lw_pM (eJ cJ aJ g) (eD cD aD fD) wC9 wM) hP
  have hDm : va_D (lwA s) wM := lz_cutD (lw_pM (eJ cJ aJ g) (eD cD aD fD) wC9 wM) hD
  obtain ⟨r1, r2, r3, f1, f2, f3, f4, k1, kc, -, -, -, hwe⟩ := id hwM
  have hPr := id hPm
  rw [hwe] at hPr
  refine lz_cMi (w2 := fun w1 => w1 ++ (eJ cJ aJ g :: eD cD aD fD :: wC9)) (lz_runV (C := RX4) (As := [.int (xs ((1 + 6 * j) + 1))]) (rest := []) hC hS hl (c_X4_forget hwM hOkY) (cwV 1 hts gL_law_X4_forget rfl rfl rfl (by decide +kernel) ⟨Nat.le_of_ble_eq_true rfl, Nat.le_of_ble_eq_true rfl⟩) hPm hDm (va_recv hK hPr (ci := 4) (q0 := 0) rfl rfl) rfl rfl (Nat.le_of_ble_eq_true rfl) dL_law_625 ⟨by show _ ≤ 601024; omega, by show _ ≤ 7293000; omega⟩) hP hD hS hA (lw_pM (eJ cJ aJ g) (eD cD aD fD) wC9 wM) (fun r w1 h => by obtain ⟨k, -, h0, h1⟩ := h; exact (Nat.eq_zero_or_pos k).elim (fun hk => (h0 hk).2.ad2 hwM) (fun hk => (h1 (by omega)).ad2 hwM)) (fun _ => List.Perm.refl _) (fun r8 wM9 H locs hpo hP hD hS => ?_)
  obtain ⟨k8, hk8, hm0, hm1⟩ := hpo
  have hk7 : cdR ((sT x : Int) ≤ (xs ((1 + 6 * j) + 1)).toInt) True True k8 := cdR_iff Iff.rfl Iff.rfl Iff.rfl hk8
  have hkk : k9 = k8 := cdR_fun hk9 hk7
  subst hkk
  have hlt := cdR_lt hk9
  replace hP := lz_permP (lw_pM (eJ cJ aJ g) (eD cD aD fD) wC9 wM9).symm hP
  replace hD := lz_permD (lw_pM (eJ cJ aJ g) (eD cD aD fD) wC9 wM9).symm hD
  refine lv_istore (lv' := [(7, .int r8), (6, .int (nI k9)), (5, .int (nI (1 + 6 * j))), (0, .ref b), (1, .ref (o 0)), (2, .ref (u 0)), (3, .ref aJ), (4, .ref aD)]) hx hb dL_law_628 hl (by decide) rfl (fun ls hl => ?_)
  rcases Nat.eq_zero_or_pos k9 with hkz | hkz
  · subst hkz
    obtain ⟨hg, hwC2⟩ := hk0 rfl
    obtain ⟨hr8, hwM2⟩ := hm0 rfl
    have hpp := cdR_0 hk9 rfl
    have hl : lv_has ls 10 [(7, .int r8), (6, .int (nI 0)), (5, .int (nI (1 + 6 * j))), (0, .ref b), (1, .ref (o 0)), (2, .ref (u 0)), (3, .ref aJ), (4, .ref aD)] := hl
    refine lv_aload_n hx hb dL_law_630 rfl (lv_at hl 5 rfl) ?_
    have hPm : va_P D vwCl wM9 H := lz_cutP (lw_pM (eJ cJ aJ g) (eD cD aD fD) wC9 wM9) hP
    have hDm : va_D (lwA s) wM9 := lz_cutD (lw_pM (eJ cJ aJ g) (eD cD aD fD) wC9 wM9) hD
    obtain ⟨r1, r2, r3, f1, f2, f3, f4, k1, kc, -, -, -, hwe2⟩ := id hwM2
    have hPr := id hPm
    rw [hwe2] at hPr
    refine vp_callSi (lz_runV (C := RX4) (As := []) (rest := []) hC hS hl (c_X4_thrown hwM2) (cwV 0 hts gL_law_X4_thrown rfl rfl rfl (by decide +kernel) ⟨Nat.le_of_ble_eq_true rfl, Nat.le_of_ble_eq_true rfl⟩) hPm hDm (va_recv hK hPr (ci := 4) (q0 := 0) rfl rfl) rfl rfl (Nat.le_of_ble_eq_true rfl) dL_law_631 ⟨by show _ ≤ 601024; omega, by show _ ≤ 7293000; omega⟩).run (fun r7 hr7 => ?_)
    subst hr7
    refine lv_iload hx hb dL_law_634 (lv_at hl 1 rfl) ?_
    refine lv_icmp_eq (tgt := 641) hx hb dL_law_636 (by decide) (fun c_1 => ?_) (fun c_1 => absurd rfl c_1)
    refine lv_iload hx hb dL_law_641 (lv_at hl 1 rfl) ?_
    refine lv_if_ne (tgt := 658) hx hb dL_law_643 (by decide) (fun c_2 => absurd nI_0 c_2) (fun c_2 => ?_)
    refine lv_aload_n hx hb dL_law_646 rfl (lv_at hl 6 rfl) ?_
    refine lv_iconst (v := nI 0) hx hb dL_law_647 (by decide) ?_
    refine lz_lald hx hb hKJ hP dL_law_648 ?_
    refine lv_iload hx hb dL_law_649 (lv_at hl 0 rfl) ?_
    refine lv_i2l (v := r8.toInt64) hx hb dL_law_651 rfl ?_
    refine W.lcmp hx hb dL_law_652 ?_
    have hve : r8 = nI ((sL x).length - cb (sL x) (xs ((1 + 6 * j) + 1)).toInt) := hr8.trans (by show nI (M.length - cb M _) = nI ((sL x).length - cb (sL x) _); rw [hLR.len, hLR.cbe])
    refine lv_if_eq (tgt := 658) hx hb dL_law_653 (by decide) (fun c_3 => ?_) (fun c_3 => absurd (by rw [hg, hve]; exact lg_self _) c_3)
    refine lv_goto (tgt := 1310) hx hb dL_law_658 (by decide) ?_
    exact hN ev R (stL x ((sL x).filter (fun e => decide ((e.1 : Int) < (xs ((1 + 6 * j) + 1)).toInt)))) _ _ wC9 wM9 g fD ⟨hwC2, hwM2, hR.stL (hLR.filter _), Ok_L hOk (rIn_filter hL9 _), srt_filter hs _, by show sT x ≤ _; omega⟩ H locs ls hP hD hS (lv_sub hl [2, 3, 4, 5, 6, 7] rfl)
  · have hwC2 := hk1 (by omega)
    have hwM2 := hm1 (by omega)
    have hl : lv_has ls 10 [(7, .int r8), (6, .int (nI k9)), (5, .int (nI (1 + 6 * j))), (0, .ref b), (1, .ref (o 0)), (2, .ref (u 0)), (3, .ref aJ), (4, .ref aD)] := hl
    refine lv_aload_n hx hb dL_law_630 rfl (lv_at hl 5 rfl) ?_
    have hPm : va_P D vwCl wM9 H := lz_cutP (lw_pM (eJ cJ aJ g) (eD cD aD fD) wC9 wM9) hP
    have hDm : va_D (lwA s) wM9 := lz_cutD (lw_pM (eJ cJ aJ g) (eD cD aD fD) wC9 wM9) hD
    obtain ⟨r1, r2, r3, f1, f2, f3, f4, k1, kc, -, -, -, hwe2⟩ := id hwM2
    have hPr := id hPm
    rw [hwe2] at hPr
    refine vp_callSi (lz_runV (C := RX4) (As := []) (rest := []) hC hS hl (c_X4_thrown hwM2) (cwV 0 hts gL_law_X4_thrown rfl rfl rfl (by decide +kernel) ⟨Nat.le_of_ble_eq_true rfl, Nat.le_of_ble_eq_true rfl⟩) hPm hDm (va_recv hK hPr (ci := 4) (q0 := 0) rfl rfl) rfl rfl (Nat.le_of_ble_eq_true rfl) dL_law_631 ⟨by show _ ≤ 601024; omega, by show _ ≤ 7293000; omega⟩).run (fun r7 hr7 => ?_)
    subst hr7
    refine lv_iload hx hb dL_law_634 (lv_at hl 1 rfl) ?_
    refine lv_icmp_eq (tgt := 641) hx hb dL_law_636 (by decide) (fun c_4 => ?_) (fun c_4 => absurd rfl c_4)
    refine lv_iload hx hb dL_law_641 (lv_at hl 1 rfl) ?_
    refine lv_if_ne (tgt := 658) hx hb dL_law_643 (by decide) (fun c_5 => ?_) (fun c_5 => absurd c_5 (fun q9 => absurd ((iz_ne0 (by omega)).mp q9) (by omega)))
    refine lv_goto (tgt := 1310) hx hb dL_law_658 (by decide) ?_
    exact hN ev R x (stL x M) _ wC9 wM9 g fD ⟨hwC2, hwM2, hR, hOk, hs, by omega⟩ H locs ls hP hD hS (lv_sub hl [2, 3, 4, 5, 6, 7] rfl)

set_option maxRecDepth 100000 in
set_option maxHeartbeats 4000000 in
/-- case 8: late -/
theorem law_8 {p : Program} {l : Launch} {e : Env} {m : MethodId} {c : Code} {s : State} {below : List Frame} {meth : Method} {b L : Nat} {xs : Nat → Int32} {D : va_G} {cI cF cQ cJ cD : ClassId} {aT : Nat} {o u : Nat → Nat} {aJ aD n j ev : Nat} {R : List dI} {x y : St} {th : Int32} {wC wM : va_W} {fJ : Nat → Int64} {fD : Nat → UInt64} {H : Heap} {locs : List Loc} {ls : Array Slot} (h0 : lwC p l m c s b L xs D cI cF cQ cJ cD aT) (hj : j ≤ 511) (hi : 1 + 6 * j + 6 ≤ L) (hN : lwN p l e m c s below meth b D cI cF cQ cJ cD o u aJ aD n j) (hI : LI cI cF cQ o u n j ev R x y th wC wM) (hP : va_P D vwCl (eJ cJ aJ fJ :: eD cD aD fD :: (wC ++ wM)) H) (hD : va_D (lwA s) (eJ cJ aJ fJ :: eD cD aD fD :: (wC ++ wM))) (hS : va_S (lwA s) s.heap H locs) (hl : lv_has ls 10 (lwL b (o 0) (u 0) aJ aD (1 + 6 * j))) : W p l e room_1 s m #[Value.ref b] below meth c H locs (46 + 8 * j) (13635 + 48 * j) (lw_Z below #[Value.ref b] s) (F0 m 661 ls []) := by
  obtain ⟨hC, hKJ, hX, hbl, hL⟩ := id h0
  have hx := hC.1.1
  have hb := hC.1.2.1
  have hml := hC.1.2.2.1
  have hown : s.vm.findClass RL = some m.cls := hC.1.2.2.2.1
  have hts := hC.1.2.2.2.2
  have hA := hC.2.1
  have hK := hC.2.2.2.1
  have hbA : ¬ lwA s b := Nat.not_le.mpr hbl
  obtain ⟨hwC, hwM, hR, hOk, hs, hT⟩ := id hI
  obtain ⟨M, rfl, hLR⟩ := rel_eq hR
  have hOkY := hR.ok hOk
  have hn9 := hOk.1.2
  have hL9 : rIn n (sL x) := hOk.2.2.2.2.2.1
  have hT9 : sT x ≤ 64 * 511 := by omega
  have hl : lv_has ls 10 [(5, .int (nI (1 + 6 * j))), (0, .ref b), (1, .ref (o 0)), (2, .ref (u 0)), (3, .ref aJ), (4, .ref aD)] := hl
  refine lv_aload_n hx hb dL_law_661 rfl (lv_at hl 2 rfl) ?_
  refine lv_aload_n hx hb dL_law_662 rfl (lv_at hl 1 rfl) ?_
  refine lv_iload hx hb dL_law_663 (lv_at hl 0 rfl) ?_
  refine lv_iconst (v := nI 1) hx hb dL_law_665 (by decide) ?_
  refine lv_iadd hx hb dL_law_666 ?_
  refine lz_i (nI_add _ _) ?_
  refine lz_sld hx hb hX hbl hbA hS (k := ((1 + 6 * j) + 1)) (by omega) (by omega) dL_law_667 ?_
  refine lv_aload_n hx hb dL_law_668 rfl (lv_at hl 1 rfl) ?_
  refine lv_iload hx hb dL_law_669 (lv_at hl 0 rfl) ?_
  refine lv_iconst (v := nI 2) hx hb dL_law_671 (by decide) ?_
  refine lv_iadd hx hb dL_law_672 ?_
  refine lz_i (nI_add _ _) ?_
  refine lz_sld hx hb hX hbl hbA hS (k := ((1 + 6 * j) + 2)) (by omega) (by omega) dL_law_673 ?_
  refine lv_aload_n hx hb dL_law_674 rfl (lv_at hl 1 rfl) ?_
  refine lv_iload hx hb dL_law_675 (lv_at hl 0 rfl) ?_
  refine lv_iconst (v := nI 3) hx hb dL_law_677 (by decide) ?_
  refine lv_iadd hx hb dL_law_678 ?_
  refine lz_i (nI_add _ _) ?_
  refine lz_sld hx hb hX hbl hbA hS (k := ((1 + 6 * j) + 3)) (by omega) (by omega) dL_law_679 ?_
  refine lv_aload_n hx hb dL_law_680 rfl (lv_at hl 1 rfl) ?_
  refine lv_iload hx hb dL_law_681 (lv_at hl 0 rfl) ?_
  refine lv_iconst (v := nI 4) hx hb dL_law_683 (by decide) ?_
  refine lv_iadd hx hb dL_law_684 ?_
  refine lz_i (nI_add _ _) ?_
  refine lz_sld hx hb hX hbl hbA hS (k := ((1 + 6 * j) + 4)) (by omega) (by omega) dL_law_685 ?_
  refine lv_i2f hx hb dL_law_686 ?_
  refine lv_ldcf (v := c8) hx hb hown (hts (.constantFloat RL 78 (1040187392)) (List.mem_of_getElem? (i := 8) rfl)) dL_law_687 ?_
  refine lv_fmul hx hb dL_law_689 (fl_n32 (fl_mul (i2f_F _) c8_F)) ?_
  refine lv_aload_n hx hb dL_law_690 rfl (lv_at hl 4 rfl) ?_
  have hPc : va_P D vwCl ((eJ cJ aJ fJ) :: wC) H := lz_cutP (lw_pJ (eJ cJ aJ fJ) (eD cD aD fD) wC wM) hP
  have hDc : va_D (lwA s) ((eJ cJ aJ fJ) :: wC) := lz_cutD (lw_pJ (eJ cJ aJ fJ) (eD cD aD fD) wC wM) hD
  refine lz_cMi (w2 := fun w1 => w1 ++ ((eD cD aD fD) :: wM)) (lz_runSH (As := [.ref (o 0), .int (xs ((1 + 6 * j) + 1)), .int (xs ((1 + 6 * j) + 2)), .int (xs ((1 + 6 * j) + 3)), .float (FP.fmul (FP.i2f (xs ((1 + 6 * j) + 4))) c8), .ref aJ]) (rest := []) hC hKJ hS hl (c_L_late hwC hOk hs) (vx_cwSW 6 hts gL_law_L_late rfl rfl rfl (by decide +kernel) ⟨Nat.le_of_ble_eq_true rfl, Nat.le_of_ble_eq_true rfl⟩) hPc hDc rfl rfl (Nat.le_of_ble_eq_true rfl) dL_law_691 ⟨by show _ ≤ 601024; omega, by show _ ≤ 7293000; omega⟩) hP hD hS hA (lw_pJ (eJ cJ aJ fJ) (eD cD aD fD) wC wM) (fun r w1 h => by obtain ⟨k, wC9, g, -, -, rfl, h0, h1⟩ := h; exact congrArg (List.cons aJ) ((Nat.eq_zero_or_pos k).elim (fun hk => (h0 hk).2.ad2 hwC) (fun hk => (h1 (by omega)).ad2 hwC))) (fun _ => List.Perm.refl _) (fun r9 w1 H locs hpo hP hD hS => ?_)
  obtain ⟨k9, wC9, g, rfl, hk9, rfl, hk0, hk1⟩ := hpo
  replace hP := lz_permP (lw_pJ (eJ cJ aJ g) (eD cD aD fD) wC9 wM).symm hP
  replace hD := lz_permD (lw_pJ (eJ cJ aJ g) (eD cD aD fD) wC9 wM).symm hD
  refine lv_istore (lv' := [(6, .int (nI k9)), (5, .int (nI (1 + 6 * j))), (0, .ref b), (1, .ref (o 0)), (2, .ref (u 0)), (3, .ref aJ), (4, .ref aD)]) hx hb dL_law_694 hl (by decide) rfl (fun ls hl => ?_)
  refine lv_aload_n hx hb dL_law_696 rfl (lv_at hl 4 rfl) ?_
  refine lv_aload_n hx hb dL_law_697 rfl (lv_at hl 2 rfl) ?_
  refine lv_iload hx hb dL_law_698 (lv_at hl 1 rfl) ?_
  refine lv_iconst (v := nI 1) hx hb dL_law_700 (by decide) ?_
  refine lv_iadd hx hb dL_law_701 ?_
  refine lz_i (nI_add _ _) ?_
  refine lz_sld hx hb hX hbl hbA hS (k := ((1 + 6 * j) + 1)) (by omega) (by omega) dL_law_702 ?_
  refine lv_aload_n hx hb dL_law_703 rfl (lv_at hl 2 rfl) ?_
  refine lv_iload hx hb dL_law_704 (lv_at hl 1 rfl) ?_
  refine lv_iconst (v := nI 2) hx hb dL_law_706 (by decide) ?_
  refine lv_iadd hx hb dL_law_707 ?_
  refine lz_i (nI_add _ _) ?_
  refine lz_sld hx hb hX hbl hbA hS (k := ((1 + 6 * j) + 2)) (by omega) (by omega) dL_law_708 ?_
  refine lv_aload_n hx hb dL_law_709 rfl (lv_at hl 2 rfl) ?_
  refine lv_iload hx hb dL_law_710 (lv_at hl 1 rfl) ?_
  refine lv_iconst (v := nI 3) hx hb dL_law_712 (by decide) ?_
  refine lv_iadd hx hb dL_law_713 ?_
  refine lz_i (nI_add _ _) ?_
  refine lz_sld hx hb hX hbl hbA hS (k := ((1 + 6 * j) + 3)) (by omega) (by omega) dL_law_714 ?_
  refine lv_aload_n hx hb dL_law_715 rfl (lv_at hl 2 rfl) ?_
  refine lv_iload hx hb dL_law_716 (lv_at hl 1 rfl) ?_
  refine lv_iconst (v := nI 4) hx hb dL_law_718 (by decide) ?_
  refine lv_iadd hx hb dL_law_719 ?_
  refine lz_i (nI_add _ _) ?_
  refine lz_sld hx hb hX hbl hbA hS (k := ((1 + 6 * j) + 4)) (by omega) (by omega) dL_law_720 ?_
  refine lv_i2f hx hb dL_law_721 ?_
  refine lv_ldcf (v := c8) hx hb hown (hts (.constantFloat RL 78 (1040187392)) (List.mem_of_getElem? (i := 8) rfl)) dL_law_722 ?_
  refine lv_fmul hx hb dL_law_724 (fl_n32 (fl_mul (i2f_F _) c8_F)) ?_
  have hPm : va_P D vwCl wM H := lz_cutP (lw_pM (eJ cJ aJ g) (eD cD aD fD) wC9 wM) hP
  have hDm : va_D (lwA s) wM := lz_cutD (lw_pM (eJ cJ aJ g) (eD cD aD fD) wC9 wM) hD
  obtain ⟨r1, r2, r3, f1, f2, f3, f4, k1, kc, -, -, -, hwe⟩ := id hwM
  have hPr := id hPm
  rw [hwe] at hPr
  refine lz_cMi (w2 := fun w1 => w1 ++ (eJ cJ aJ g :: eD cD aD fD :: wC9)) (lz_runV (C := RX4) (As := [.int (xs ((1 + 6 * j) + 1)), .int (xs ((1 + 6 * j) + 2)), .int (xs ((1 + 6 * j) + 3)), .float (FP.fmul (FP.i2f (xs ((1 + 6 * j) + 4))) c8)]) (rest := []) hC hS hl (c_X4_late hwM hOkY) (cwV 4 hts gL_law_X4_late rfl rfl rfl (by decide +kernel) ⟨Nat.le_of_ble_eq_true rfl, Nat.le_of_ble_eq_true rfl⟩) hPm hDm (va_recv hK hPr (ci := 4) (q0 := 0) rfl rfl) rfl rfl (Nat.le_of_ble_eq_true rfl) dL_law_725 ⟨by show _ ≤ 601024; omega, by show _ ≤ 7293000; omega⟩) hP hD hS hA (lw_pM (eJ cJ aJ g) (eD cD aD fD) wC9 wM) (fun r w1 h => by obtain ⟨k, -, h0, h1⟩ := h; exact (Nat.eq_zero_or_pos k).elim (fun hk => (h0 hk).2.ad2 hwM) (fun hk => (h1 (by omega)).ad2 hwM)) (fun _ => List.Perm.refl _) (fun r8 wM9 H locs hpo hP hD hS => ?_)
  obtain ⟨k8, hk8, hm0, hm1⟩ := hpo
  have hk7 : cdR (kn n (xs ((1 + 6 * j) + 2))) (okW (xs ((1 + 6 * j) + 3)) (FP.fmul (FP.i2f (xs ((1 + 6 * j) + 4))) c8) ∧ 0 ≤ (xs ((1 + 6 * j) + 1)).toInt ∧ (xs ((1 + 6 * j) + 1)).toInt ≤ (sT x : Int)) (1 + (sL x).length ≤ 512 ∧ 0 < hsn (sS x) (xs ((1 + 6 * j) + 1)).toInt) k8 := cdR_iff Iff.rfl Iff.rfl (by show (1 + M.length ≤ 512 ∧ _) ↔ _; rw [hLR.len]) hk8
  have hkk : k9 = k8 := cdR_fun hk9 hk7
  subst hkk
  have hlt := cdR_lt hk9
  replace hP := lz_permP (lw_pM (eJ cJ aJ g) (eD cD aD fD) wC9 wM9).symm hP
  replace hD := lz_permD (lw_pM (eJ cJ aJ g) (eD cD aD fD) wC9 wM9).symm hD
  refine lv_istore (lv' := [(7, .int r8), (6, .int (nI k9)), (5, .int (nI (1 + 6 * j))), (0, .ref b), (1, .ref (o 0)), (2, .ref (u 0)), (3, .ref aJ), (4, .ref aD)]) hx hb dL_law_728 hl (by decide) rfl (fun ls hl => ?_)
  rcases Nat.eq_zero_or_pos k9 with hkz | hkz
  · subst hkz
    obtain ⟨hg, hwC2⟩ := hk0 rfl
    obtain ⟨hr8, hwM2⟩ := hm0 rfl
    have hpp := cdR_0 hk9 rfl
    have hl : lv_has ls 10 [(7, .int r8), (6, .int (nI 0)), (5, .int (nI (1 + 6 * j))), (0, .ref b), (1, .ref (o 0)), (2, .ref (u 0)), (3, .ref aJ), (4, .ref aD)] := hl
    refine lv_aload_n hx hb dL_law_730 rfl (lv_at hl 5 rfl) ?_
    have hPm : va_P D vwCl wM9 H := lz_cutP (lw_pM (eJ cJ aJ g) (eD cD aD fD) wC9 wM9) hP
    have hDm : va_D (lwA s) wM9 := lz_cutD (lw_pM (eJ cJ aJ g) (eD cD aD fD) wC9 wM9) hD
    obtain ⟨r1, r2, r3, f1, f2, f3, f4, k1, kc, -, -, -, hwe2⟩ := id hwM2
    have hPr := id hPm
    rw [hwe2] at hPr
    refine vp_callSi (lz_runV (C := RX4) (As := []) (rest := []) hC hS hl (c_X4_thrown hwM2) (cwV 0 hts gL_law_X4_thrown rfl rfl rfl (by decide +kernel) ⟨Nat.le_of_ble_eq_true rfl, Nat.le_of_ble_eq_true rfl⟩) hPm hDm (va_recv hK hPr (ci := 4) (q0 := 0) rfl rfl) rfl rfl (Nat.le_of_ble_eq_true rfl) dL_law_731 ⟨by show _ ≤ 601024; omega, by show _ ≤ 7293000; omega⟩).run (fun r7 hr7 => ?_)
    subst hr7
    refine lv_iload hx hb dL_law_734 (lv_at hl 1 rfl) ?_
    refine lv_icmp_eq (tgt := 741) hx hb dL_law_736 (by decide) (fun c_1 => ?_) (fun c_1 => absurd rfl c_1)
    refine lv_iload hx hb dL_law_741 (lv_at hl 1 rfl) ?_
    refine lv_if_ne (tgt := 758) hx hb dL_law_743 (by decide) (fun c_2 => absurd nI_0 c_2) (fun c_2 => ?_)
    refine lv_aload_n hx hb dL_law_746 rfl (lv_at hl 6 rfl) ?_
    refine lv_iconst (v := nI 0) hx hb dL_law_747 (by decide) ?_
    refine lz_lald hx hb hKJ hP dL_law_748 ?_
    refine lv_iload hx hb dL_law_749 (lv_at hl 0 rfl) ?_
    refine lv_i2l (v := r8.toInt64) hx hb dL_law_751 rfl ?_
    refine W.lcmp hx hb dL_law_752 ?_
    have hve : r8 = ltv (sS x) (sT x) (xs ((1 + 6 * j) + 1)).toInt := hr8.trans rfl
    refine lv_if_eq (tgt := 758) hx hb dL_law_753 (by decide) (fun c_3 => ?_) (fun c_3 => absurd (by rw [hg, hve]; exact lg_self _) c_3)
    refine lv_goto (tgt := 1310) hx hb dL_law_758 (by decide) ?_
    have hin9 : rIn n (rins (sL x) (tn (xs ((1 + 6 * j) + 1)), tn (xs ((1 + 6 * j) + 2)), tn (xs ((1 + 6 * j) + 3)), (FP.fmul (FP.i2f (xs ((1 + 6 * j) + 4))) c8))) := rIn_rins hL9 (by have := hpp.2.2.1; omega) ⟨by have := hpp.2.1.2; show (xs ((1 + 6 * j) + 1)).toInt.toNat < 2 ^ 30; omega, by have := hpp.1; show (xs ((1 + 6 * j) + 2)).toInt.toNat < n; omega, by have := hpp.2.1.1.1; show (xs ((1 + 6 * j) + 3)).toInt.toNat ≤ 2; omega, inF_F cN_F cP_F hpp.2.1.1.2⟩
    exact hN ev R (ltx n R ev (stL x (rins (sL x) (tn (xs ((1 + 6 * j) + 1)), tn (xs ((1 + 6 * j) + 2)), tn (xs ((1 + 6 * j) + 3)), (FP.fmul (FP.i2f (xs ((1 + 6 * j) + 4))) c8)))) (xs ((1 + 6 * j) + 1)).toInt) _ _ wC9 wM9 g fD ⟨hwC2, hwM2, (hR.stL (hLR.put hs _)).lx n R ev _, (ltx_ok (Ok_L hOk hin9) (rins_srt hs _) _).1, (ltx_ok (Ok_L hOk hin9) (rins_srt hs _) _).2.1, Nat.le_trans (ltx_ok (Ok_L hOk hin9) (rins_srt hs _) _).2.2 (by show sT x ≤ _; omega)⟩ H locs ls hP hD hS (lv_sub hl [2, 3, 4, 5, 6, 7] rfl)
  · have hwC2 := hk1 (by omega)
    have hwM2 := hm1 (by omega)
    have hl : lv_has ls 10 [(7, .int r8), (6, .int (nI k9)), (5, .int (nI (1 + 6 * j))), (0, .ref b), (1, .ref (o 0)), (2, .ref (u 0)), (3, .ref aJ), (4, .ref aD)] := hl
    refine lv_aload_n hx hb dL_law_730 rfl (lv_at hl 5 rfl) ?_
    have hPm : va_P D vwCl wM9 H := lz_cutP (lw_pM (eJ cJ aJ g) (eD cD aD fD) wC9 wM9) hP
    have hDm : va_D (lwA s) wM9 := lz_cutD (lw_pM (eJ cJ aJ g) (eD cD aD fD) wC9 wM9) hD
    obtain ⟨r1, r2, r3, f1, f2, f3, f4, k1, kc, -, -, -, hwe2⟩ := id hwM2
    have hPr := id hPm
    rw [hwe2] at hPr
    refine vp_callSi (lz_runV (C := RX4) (As := []) (rest := []) hC hS hl (c_X4_thrown hwM2) (cwV 0 hts gL_law_X4_thrown rfl rfl rfl (by decide +kernel) ⟨Nat.le_of_ble_eq_true rfl, Nat.le_of_ble_eq_true rfl⟩) hPm hDm (va_recv hK hPr (ci := 4) (q0 := 0) rfl rfl) rfl rfl (Nat.le_of_ble_eq_true rfl) dL_law_731 ⟨by show _ ≤ 601024; omega, by show _ ≤ 7293000; omega⟩).run (fun r7 hr7 => ?_)
    subst hr7
    refine lv_iload hx hb dL_law_734 (lv_at hl 1 rfl) ?_
    refine lv_icmp_eq (tgt := 741) hx hb dL_law_736 (by decide) (fun c_4 => ?_) (fun c_4 => absurd rfl c_4)
    refine lv_iload hx hb dL_law_741 (lv_at hl 1 rfl) ?_
    refine lv_if_ne (tgt := 758) hx hb dL_law_743 (by decide) (fun c_5 => ?_) (fun c_5 => absurd c_5 (fun q9 => absurd ((iz_ne0 (by omega)).mp q9) (by omega)))
    refine lv_goto (tgt := 1310) hx hb dL_law_758 (by decide) ?_
    exact hN ev R x (stL x M) _ wC9 wM9 g fD ⟨hwC2, hwM2, hR, hOk, hs, by omega⟩ H locs ls hP hD hS (lv_sub hl [2, 3, 4, 5, 6, 7] rfl)

set_option maxRecDepth 100000 in
set_option maxHeartbeats 4000000 in
/-- case 9: cell -/
theorem law_9 {p : Program} {l : Launch} {e : Env} {m : MethodId} {c : Code} {s : State} {below : List Frame} {meth : Method} {b L : Nat} {xs : Nat → Int32} {D : va_G} {cI cF cQ cJ cD : ClassId} {aT : Nat} {o u : Nat → Nat} {aJ aD n j ev : Nat} {R : List dI} {x y : St} {th : Int32} {wC wM : va_W} {fJ : Nat → Int64} {fD : Nat → UInt64} {H : Heap} {locs : List Loc} {ls : Array Slot} (h0 : lwC p l m c s b L xs D cI cF cQ cJ cD aT) (hj : j ≤ 511) (hi : 1 + 6 * j + 6 ≤ L) (hN : lwN p l e m c s below meth b D cI cF cQ cJ cD o u aJ aD n j) (hI : LI cI cF cQ o u n j ev R x y th wC wM) (hP : va_P D vwCl (eJ cJ aJ fJ :: eD cD aD fD :: (wC ++ wM)) H) (hD : va_D (lwA s) (eJ cJ aJ fJ :: eD cD aD fD :: (wC ++ wM))) (hS : va_S (lwA s) s.heap H locs) (hl : lv_has ls 10 (lwL b (o 0) (u 0) aJ aD (1 + 6 * j))) : W p l e room_1 s m #[Value.ref b] below meth c H locs (46 + 8 * j) (13635 + 48 * j) (lw_Z below #[Value.ref b] s) (F0 m 761 ls []) := by
  obtain ⟨hC, hKJ, hX, hbl, hL⟩ := id h0
  have hx := hC.1.1
  have hb := hC.1.2.1
  have hml := hC.1.2.2.1
  have hown : s.vm.findClass RL = some m.cls := hC.1.2.2.2.1
  have hts := hC.1.2.2.2.2
  have hA := hC.2.1
  have hK := hC.2.2.2.1
  have hbA : ¬ lwA s b := Nat.not_le.mpr hbl
  obtain ⟨hwC, hwM, hR, hOk, hs, hT⟩ := id hI
  obtain ⟨M, rfl, hLR⟩ := rel_eq hR
  have hOkY := hR.ok hOk
  have hn9 := hOk.1.2
  have hL9 : rIn n (sL x) := hOk.2.2.2.2.2.1
  have hT9 : sT x ≤ 64 * 511 := by omega
  have hl : lv_has ls 10 [(5, .int (nI (1 + 6 * j))), (0, .ref b), (1, .ref (o 0)), (2, .ref (u 0)), (3, .ref aJ), (4, .ref aD)] := hl
  refine lv_aload_n hx hb dL_law_761 rfl (lv_at hl 2 rfl) ?_
  refine lv_aload_n hx hb dL_law_762 rfl (lv_at hl 1 rfl) ?_
  refine lv_iload hx hb dL_law_763 (lv_at hl 0 rfl) ?_
  refine lv_iconst (v := nI 1) hx hb dL_law_765 (by decide) ?_
  refine lv_iadd hx hb dL_law_766 ?_
  refine lz_i (nI_add _ _) ?_
  refine lz_sld hx hb hX hbl hbA hS (k := ((1 + 6 * j) + 1)) (by omega) (by omega) dL_law_767 ?_
  refine lv_aload hx hb dL_law_768 (lv_at hl 5 rfl) ?_
  have hPc : va_P D vwCl ((eD cD aD fD) :: wC) H := lz_cutP (lw_pD (eJ cJ aJ fJ) (eD cD aD fD) wC wM) hP
  have hDc : va_D (lwA s) ((eD cD aD fD) :: wC) := lz_cutD (lw_pD (eJ cJ aJ fJ) (eD cD aD fD) wC wM) hD
  refine lz_cMi (w2 := fun w1 => w1 ++ ((eJ cJ aJ fJ) :: wM)) (lz_runSH (As := [.ref (o 0), .int (xs ((1 + 6 * j) + 1)), .ref aD]) (rest := []) hC hKJ hS hl (c_L_cell_ hwC hOk hs) (vx_cwSW 3 hts gL_law_L_cell_ rfl rfl rfl (by decide +kernel) ⟨Nat.le_of_ble_eq_true rfl, Nat.le_of_ble_eq_true rfl⟩) hPc hDc rfl rfl (Nat.le_of_ble_eq_true rfl) dL_law_770 ⟨by show _ ≤ 601024; omega, by show _ ≤ 7293000; omega⟩) hP hD hS hA (lw_pD (eJ cJ aJ fJ) (eD cD aD fD) wC wM) (fun r w1 h => by obtain ⟨k, wC9, g, -, -, rfl, h0, h1⟩ := h; exact congrArg (List.cons aD) ((Nat.eq_zero_or_pos k).elim (fun hk => (h0 hk).2.ad2 hwC) (fun hk => (h1 (by omega)).ad2 hwC))) (fun _ => List.Perm.refl _) (fun r9 w1 H locs hpo hP hD hS => ?_)
  obtain ⟨k9, wC9, g, rfl, hk9, rfl, hk0, hk1⟩ := hpo
  replace hP := lz_permP (lw_pD (eJ cJ aJ fJ) (eD cD aD g) wC9 wM).symm hP
  replace hD := lz_permD (lw_pD (eJ cJ aJ fJ) (eD cD aD g) wC9 wM).symm hD
  refine lv_istore (lv' := [(6, .int (nI k9)), (5, .int (nI (1 + 6 * j))), (0, .ref b), (1, .ref (o 0)), (2, .ref (u 0)), (3, .ref aJ), (4, .ref aD)]) hx hb dL_law_773 hl (by decide) rfl (fun ls hl => ?_)
  refine lv_aload_n hx hb dL_law_775 rfl (lv_at hl 4 rfl) ?_
  refine lv_aload_n hx hb dL_law_776 rfl (lv_at hl 2 rfl) ?_
  refine lv_iload hx hb dL_law_777 (lv_at hl 1 rfl) ?_
  refine lv_iconst (v := nI 1) hx hb dL_law_779 (by decide) ?_
  refine lv_iadd hx hb dL_law_780 ?_
  refine lz_i (nI_add _ _) ?_
  refine lz_sld hx hb hX hbl hbA hS (k := ((1 + 6 * j) + 1)) (by omega) (by omega) dL_law_781 ?_
  have hPm : va_P D vwCl wM H := lz_cutP (lw_pM (eJ cJ aJ fJ) (eD cD aD g) wC9 wM) hP
  have hDm : va_D (lwA s) wM := lz_cutD (lw_pM (eJ cJ aJ fJ) (eD cD aD g) wC9 wM) hD
  obtain ⟨r1, r2, r3, f1, f2, f3, f4, k1, kc, -, -, -, hwe⟩ := id hwM
  have hPr := id hPm
  rw [hwe] at hPr
  refine lz_cMf (w2 := fun w1 => w1 ++ (eJ cJ aJ fJ :: eD cD aD g :: wC9)) (lz_runV (C := RX4) (As := [.int (xs ((1 + 6 * j) + 1))]) (rest := []) hC hS hl (c_X4_cell hwM hOkY) (cwV 1 hts gL_law_X4_cell rfl rfl rfl (by decide +kernel) ⟨Nat.le_of_ble_eq_true rfl, Nat.le_of_ble_eq_true rfl⟩) hPm hDm (va_recv hK hPr (ci := 4) (q0 := 0) rfl rfl) rfl rfl (Nat.le_of_ble_eq_true rfl) dL_law_782 ⟨by show _ ≤ 601024; omega, by show _ ≤ 7293000; omega⟩) hP hD hS hA (lw_pM (eJ cJ aJ fJ) (eD cD aD g) wC9 wM) (fun r w1 h => by obtain ⟨k, -, h0, h1⟩ := h; exact (Nat.eq_zero_or_pos k).elim (fun hk => (h0 hk).2.ad2 hwM) (fun hk => (h1 (by omega)).ad2 hwM)) (fun _ => List.Perm.refl _) (fun r8 wM9 H locs hpo hP hD hS => ?_)
  obtain ⟨k8, hk8, hm0, hm1⟩ := hpo
  have hk7 : cdR (kn n (xs ((1 + 6 * j) + 1))) True True k8 := cdR_iff Iff.rfl Iff.rfl Iff.rfl hk8
  have hkk : k9 = k8 := cdR_fun hk9 hk7
  subst hkk
  have hlt := cdR_lt hk9
  replace hP := lz_permP (lw_pM (eJ cJ aJ fJ) (eD cD aD g) wC9 wM9).symm hP
  replace hD := lz_permD (lw_pM (eJ cJ aJ fJ) (eD cD aD g) wC9 wM9).symm hD
  refine lv_fstore (lv' := [(7, .float r8), (6, .int (nI k9)), (5, .int (nI (1 + 6 * j))), (0, .ref b), (1, .ref (o 0)), (2, .ref (u 0)), (3, .ref aJ), (4, .ref aD)]) hx hb dL_law_785 hl (by decide) rfl (fun ls hl => ?_)
  rcases Nat.eq_zero_or_pos k9 with hkz | hkz
  · subst hkz
    obtain ⟨hg, hwC2⟩ := hk0 rfl
    obtain ⟨hr8, hwM2⟩ := hm0 rfl
    have hpp := cdR_0 hk9 rfl
    have hl : lv_has ls 10 [(7, .float r8), (6, .int (nI 0)), (5, .int (nI (1 + 6 * j))), (0, .ref b), (1, .ref (o 0)), (2, .ref (u 0)), (3, .ref aJ), (4, .ref aD)] := hl
    refine lv_aload_n hx hb dL_law_787 rfl (lv_at hl 5 rfl) ?_
    have hPm : va_P D vwCl wM9 H := lz_cutP (lw_pM (eJ cJ aJ fJ) (eD cD aD g) wC9 wM9) hP
    have hDm : va_D (lwA s) wM9 := lz_cutD (lw_pM (eJ cJ aJ fJ) (eD cD aD g) wC9 wM9) hD
    obtain ⟨r1, r2, r3, f1, f2, f3, f4, k1, kc, -, -, -, hwe2⟩ := id hwM2
    have hPr := id hPm
    rw [hwe2] at hPr
    refine vp_callSi (lz_runV (C := RX4) (As := []) (rest := []) hC hS hl (c_X4_thrown hwM2) (cwV 0 hts gL_law_X4_thrown rfl rfl rfl (by decide +kernel) ⟨Nat.le_of_ble_eq_true rfl, Nat.le_of_ble_eq_true rfl⟩) hPm hDm (va_recv hK hPr (ci := 4) (q0 := 0) rfl rfl) rfl rfl (Nat.le_of_ble_eq_true rfl) dL_law_788 ⟨by show _ ≤ 601024; omega, by show _ ≤ 7293000; omega⟩).run (fun r7 hr7 => ?_)
    subst hr7
    refine lv_iload hx hb dL_law_791 (lv_at hl 1 rfl) ?_
    refine lv_icmp_eq (tgt := 798) hx hb dL_law_793 (by decide) (fun c_1 => ?_) (fun c_1 => absurd rfl c_1)
    refine lv_iload hx hb dL_law_798 (lv_at hl 1 rfl) ?_
    refine lv_if_ne (tgt := 836) hx hb dL_law_800 (by decide) (fun c_2 => absurd nI_0 c_2) (fun c_2 => ?_)
    refine lv_aload hx hb dL_law_803 (lv_at hl 7 rfl) ?_
    refine lv_iconst (v := nI 0) hx hb dL_law_805 (by decide) ?_
    refine lz_dald hx hb hKJ hP dL_law_806 ?_
    have hve : r8 = sc x (tn (xs ((1 + 6 * j) + 1))) := hr8.trans rfl
    have hfin : fF (sc x (tn (xs ((1 + 6 * j) + 1)))) := hOk.2.2.2.1 _
    refine lv_fload hx hb dL_law_807 (lv_at hl 0 rfl) ?_
    refine lv_f2d hx hb dL_law_809 (fl_f2d (by rw [hve]; exact hfin)) ?_
    refine lv_dcmp hx hb dL_law_810 ?_
    refine lv_if_eq (tgt := 836) hx hb dL_law_811 (by decide) (fun c_3 => ?_) (fun c_3 => absurd (by rw [hg, hve, fl_dself (fl_F hfin)]; decide) c_3)
    refine lv_goto (tgt := 1310) hx hb dL_law_836 (by decide) ?_
    exact hN ev R x _ _ wC9 wM9 fJ g ⟨hwC2, hwM2, hR, hOk, hs, by omega⟩ H locs ls hP hD hS (lv_sub hl [2, 3, 4, 5, 6, 7] rfl)
  · have hwC2 := hk1 (by omega)
    have hwM2 := hm1 (by omega)
    have hl : lv_has ls 10 [(7, .float r8), (6, .int (nI k9)), (5, .int (nI (1 + 6 * j))), (0, .ref b), (1, .ref (o 0)), (2, .ref (u 0)), (3, .ref aJ), (4, .ref aD)] := hl
    refine lv_aload_n hx hb dL_law_787 rfl (lv_at hl 5 rfl) ?_
    have hPm : va_P D vwCl wM9 H := lz_cutP (lw_pM (eJ cJ aJ fJ) (eD cD aD g) wC9 wM9) hP
    have hDm : va_D (lwA s) wM9 := lz_cutD (lw_pM (eJ cJ aJ fJ) (eD cD aD g) wC9 wM9) hD
    obtain ⟨r1, r2, r3, f1, f2, f3, f4, k1, kc, -, -, -, hwe2⟩ := id hwM2
    have hPr := id hPm
    rw [hwe2] at hPr
    refine vp_callSi (lz_runV (C := RX4) (As := []) (rest := []) hC hS hl (c_X4_thrown hwM2) (cwV 0 hts gL_law_X4_thrown rfl rfl rfl (by decide +kernel) ⟨Nat.le_of_ble_eq_true rfl, Nat.le_of_ble_eq_true rfl⟩) hPm hDm (va_recv hK hPr (ci := 4) (q0 := 0) rfl rfl) rfl rfl (Nat.le_of_ble_eq_true rfl) dL_law_788 ⟨by show _ ≤ 601024; omega, by show _ ≤ 7293000; omega⟩).run (fun r7 hr7 => ?_)
    subst hr7
    refine lv_iload hx hb dL_law_791 (lv_at hl 1 rfl) ?_
    refine lv_icmp_eq (tgt := 798) hx hb dL_law_793 (by decide) (fun c_4 => ?_) (fun c_4 => absurd rfl c_4)
    refine lv_iload hx hb dL_law_798 (lv_at hl 1 rfl) ?_
    refine lv_if_ne (tgt := 836) hx hb dL_law_800 (by decide) (fun c_5 => ?_) (fun c_5 => absurd c_5 (fun q9 => absurd ((iz_ne0 (by omega)).mp q9) (by omega)))
    refine lv_goto (tgt := 1310) hx hb dL_law_836 (by decide) ?_
    exact hN ev R x (stL x M) _ wC9 wM9 fJ g ⟨hwC2, hwM2, hR, hOk, hs, by omega⟩ H locs ls hP hD hS (lv_sub hl [2, 3, 4, 5, 6, 7] rfl)

set_option maxRecDepth 100000 in
set_option maxHeartbeats 4000000 in
/-- case 10: kept -/
theorem law_10 {p : Program} {l : Launch} {e : Env} {m : MethodId} {c : Code} {s : State} {below : List Frame} {meth : Method} {b L : Nat} {xs : Nat → Int32} {D : va_G} {cI cF cQ cJ cD : ClassId} {aT : Nat} {o u : Nat → Nat} {aJ aD n j ev : Nat} {R : List dI} {x y : St} {th : Int32} {wC wM : va_W} {fJ : Nat → Int64} {fD : Nat → UInt64} {H : Heap} {locs : List Loc} {ls : Array Slot} (h0 : lwC p l m c s b L xs D cI cF cQ cJ cD aT) (hj : j ≤ 511) (hi : 1 + 6 * j + 6 ≤ L) (hN : lwN p l e m c s below meth b D cI cF cQ cJ cD o u aJ aD n j) (hI : LI cI cF cQ o u n j ev R x y th wC wM) (hP : va_P D vwCl (eJ cJ aJ fJ :: eD cD aD fD :: (wC ++ wM)) H) (hD : va_D (lwA s) (eJ cJ aJ fJ :: eD cD aD fD :: (wC ++ wM))) (hS : va_S (lwA s) s.heap H locs) (hl : lv_has ls 10 (lwL b (o 0) (u 0) aJ aD (1 + 6 * j))) : W p l e room_1 s m #[Value.ref b] below meth c H locs (46 + 8 * j) (13635 + 48 * j) (lw_Z below #[Value.ref b] s) (F0 m 839 ls []) := by
  obtain ⟨hC, hKJ, hX, hbl, hL⟩ := id h0
  have hx := hC.1.1
  have hb := hC.1.2.1
  have hml := hC.1.2.2.1
  have hown : s.vm.findClass RL = some m.cls := hC.1.2.2.2.1
  have hts := hC.1.2.2.2.2
  have hA := hC.2.1
  have hK := hC.2.2.2.1
  have hbA : ¬ lwA s b := Nat.not_le.mpr hbl
  obtain ⟨hwC, hwM, hR, hOk, hs, hT⟩ := id hI
  obtain ⟨M, rfl, hLR⟩ := rel_eq hR
  have hOkY := hR.ok hOk
  have hn9 := hOk.1.2
  have hL9 : rIn n (sL x) := hOk.2.2.2.2.2.1
  have hT9 : sT x ≤ 64 * 511 := by omega
  have hl : lv_has ls 10 [(5, .int (nI (1 + 6 * j))), (0, .ref b), (1, .ref (o 0)), (2, .ref (u 0)), (3, .ref aJ), (4, .ref aD)] := hl
  refine lv_aload_n hx hb dL_law_839 rfl (lv_at hl 2 rfl) ?_
  refine lv_aload_n hx hb dL_law_840 rfl (lv_at hl 1 rfl) ?_
  refine lv_iload hx hb dL_law_841 (lv_at hl 0 rfl) ?_
  refine lv_iconst (v := nI 1) hx hb dL_law_843 (by decide) ?_
  refine lv_iadd hx hb dL_law_844 ?_
  refine lz_i (nI_add _ _) ?_
  refine lz_sld hx hb hX hbl hbA hS (k := ((1 + 6 * j) + 1)) (by omega) (by omega) dL_law_845 ?_
  refine lv_aload_n hx hb dL_law_846 rfl (lv_at hl 1 rfl) ?_
  refine lv_iload hx hb dL_law_847 (lv_at hl 0 rfl) ?_
  refine lv_iconst (v := nI 2) hx hb dL_law_849 (by decide) ?_
  refine lv_iadd hx hb dL_law_850 ?_
  refine lz_i (nI_add _ _) ?_
  refine lz_sld hx hb hX hbl hbA hS (k := ((1 + 6 * j) + 2)) (by omega) (by omega) dL_law_851 ?_
  refine lv_aload hx hb dL_law_852 (lv_at hl 5 rfl) ?_
  have hPc : va_P D vwCl ((eD cD aD fD) :: wC) H := lz_cutP (lw_pD (eJ cJ aJ fJ) (eD cD aD fD) wC wM) hP
  have hDc : va_D (lwA s) ((eD cD aD fD) :: wC) := lz_cutD (lw_pD (eJ cJ aJ fJ) (eD cD aD fD) wC wM) hD
  refine lz_cMi (w2 := fun w1 => w1 ++ ((eJ cJ aJ fJ) :: wM)) (lz_runSH (As := [.ref (o 0), .int (xs ((1 + 6 * j) + 1)), .int (xs ((1 + 6 * j) + 2)), .ref aD]) (rest := []) hC hKJ hS hl (c_L_kept hwC hOk hs) (vx_cwSW 4 hts gL_law_L_kept rfl rfl rfl (by decide +kernel) ⟨Nat.le_of_ble_eq_true rfl, Nat.le_of_ble_eq_true rfl⟩) hPc hDc rfl rfl (Nat.le_of_ble_eq_true rfl) dL_law_854 ⟨by show _ ≤ 601024; omega, by show _ ≤ 7293000; omega⟩) hP hD hS hA (lw_pD (eJ cJ aJ fJ) (eD cD aD fD) wC wM) (fun r w1 h => by obtain ⟨k, wC9, g, -, -, rfl, h0, h1⟩ := h; exact congrArg (List.cons aD) ((Nat.eq_zero_or_pos k).elim (fun hk => (h0 hk).2.ad2 hwC) (fun hk => (h1 (by omega)).ad2 hwC))) (fun _ => List.Perm.refl _) (fun r9 w1 H locs hpo hP hD hS => ?_)
  obtain ⟨k9, wC9, g, rfl, hk9, rfl, hk0, hk1⟩ := hpo
  replace hP := lz_permP (lw_pD (eJ cJ aJ fJ) (eD cD aD g) wC9 wM).symm hP
  replace hD := lz_permD (lw_pD (eJ cJ aJ fJ) (eD cD aD g) wC9 wM).symm hD
  refine lv_istore (lv' := [(6, .int (nI k9)), (5, .int (nI (1 + 6 * j))), (0, .ref b), (1, .ref (o 0)), (2, .ref (u 0)), (3, .ref aJ), (4, .ref aD)]) hx hb dL_law_857 hl (by decide) rfl (fun ls hl => ?_)
  refine lv_aload_n hx hb dL_law_859 rfl (lv_at hl 4 rfl) ?_
  refine lv_aload_n hx hb dL_law_860 rfl (lv_at hl 2 rfl) ?_
  refine lv_iload hx hb dL_law_861 (lv_at hl 1 rfl) ?_
  refine lv_iconst (v := nI 1) hx hb dL_law_863 (by decide) ?_
  refine lv_iadd hx hb dL_law_864 ?_
  refine lz_i (nI_add _ _) ?_
  refine lz_sld hx hb hX hbl hbA hS (k := ((1 + 6 * j) + 1)) (by omega) (by omega) dL_law_865 ?_
  refine lv_aload_n hx hb dL_law_866 rfl (lv_at hl 2 rfl) ?_
  refine lv_iload hx hb dL_law_867 (lv_at hl 1 rfl) ?_
  refine lv_iconst (v := nI 2) hx hb dL_law_869 (by decide) ?_
  refine lv_iadd hx hb dL_law_870 ?_
  refine lz_i (nI_add _ _) ?_
  refine lz_sld hx hb hX hbl hbA hS (k := ((1 + 6 * j) + 2)) (by omega) (by omega) dL_law_871 ?_
  have hPm : va_P D vwCl wM H := lz_cutP (lw_pM (eJ cJ aJ fJ) (eD cD aD g) wC9 wM) hP
  have hDm : va_D (lwA s) wM := lz_cutD (lw_pM (eJ cJ aJ fJ) (eD cD aD g) wC9 wM) hD
  obtain ⟨r1, r2, r3, f1, f2, f3, f4, k1, kc, -, -, -, hwe⟩ := id hwM
  have hPr := id hPm
  rw [hwe] at hPr
  refine lz_cMf (w2 := fun w1 => w1 ++ (eJ cJ aJ fJ :: eD cD aD g :: wC9)) (lz_runV (C := RX4) (As := [.int (xs ((1 + 6 * j) + 1)), .int (xs ((1 + 6 * j) + 2))]) (rest := []) hC hS hl (c_X4_kept hwM hOkY) (cwV 2 hts gL_law_X4_kept rfl rfl rfl (by decide +kernel) ⟨Nat.le_of_ble_eq_true rfl, Nat.le_of_ble_eq_true rfl⟩) hPm hDm (va_recv hK hPr (ci := 4) (q0 := 0) rfl rfl) rfl rfl (Nat.le_of_ble_eq_true rfl) dL_law_872 ⟨by show _ ≤ 601024; omega, by show _ ≤ 7293000; omega⟩) hP hD hS hA (lw_pM (eJ cJ aJ fJ) (eD cD aD g) wC9 wM) (fun r w1 h => by obtain ⟨k, -, h0, h1⟩ := h; exact (Nat.eq_zero_or_pos k).elim (fun hk => (h0 hk).2.ad2 hwM) (fun hk => (h1 (by omega)).ad2 hwM)) (fun _ => List.Perm.refl _) (fun r8 wM9 H locs hpo hP hD hS => ?_)
  obtain ⟨k8, hk8, hm0, hm1⟩ := hpo
  have hk7 : cdR (kn n (xs ((1 + 6 * j) + 2)) ∧ plc (sS x) (xs ((1 + 6 * j) + 1)).toInt ≠ none) True True k8 := cdR_iff Iff.rfl Iff.rfl Iff.rfl hk8
  have hkk : k9 = k8 := cdR_fun hk9 hk7
  subst hkk
  have hlt := cdR_lt hk9
  replace hP := lz_permP (lw_pM (eJ cJ aJ fJ) (eD cD aD g) wC9 wM9).symm hP
  replace hD := lz_permD (lw_pM (eJ cJ aJ fJ) (eD cD aD g) wC9 wM9).symm hD
  refine lv_fstore (lv' := [(7, .float r8), (6, .int (nI k9)), (5, .int (nI (1 + 6 * j))), (0, .ref b), (1, .ref (o 0)), (2, .ref (u 0)), (3, .ref aJ), (4, .ref aD)]) hx hb dL_law_875 hl (by decide) rfl (fun ls hl => ?_)
  rcases Nat.eq_zero_or_pos k9 with hkz | hkz
  · subst hkz
    obtain ⟨hg, hwC2⟩ := hk0 rfl
    obtain ⟨hr8, hwM2⟩ := hm0 rfl
    have hpp := cdR_0 hk9 rfl
    have hl : lv_has ls 10 [(7, .float r8), (6, .int (nI 0)), (5, .int (nI (1 + 6 * j))), (0, .ref b), (1, .ref (o 0)), (2, .ref (u 0)), (3, .ref aJ), (4, .ref aD)] := hl
    refine lv_aload_n hx hb dL_law_877 rfl (lv_at hl 5 rfl) ?_
    have hPm : va_P D vwCl wM9 H := lz_cutP (lw_pM (eJ cJ aJ fJ) (eD cD aD g) wC9 wM9) hP
    have hDm : va_D (lwA s) wM9 := lz_cutD (lw_pM (eJ cJ aJ fJ) (eD cD aD g) wC9 wM9) hD
    obtain ⟨r1, r2, r3, f1, f2, f3, f4, k1, kc, -, -, -, hwe2⟩ := id hwM2
    have hPr := id hPm
    rw [hwe2] at hPr
    refine vp_callSi (lz_runV (C := RX4) (As := []) (rest := []) hC hS hl (c_X4_thrown hwM2) (cwV 0 hts gL_law_X4_thrown rfl rfl rfl (by decide +kernel) ⟨Nat.le_of_ble_eq_true rfl, Nat.le_of_ble_eq_true rfl⟩) hPm hDm (va_recv hK hPr (ci := 4) (q0 := 0) rfl rfl) rfl rfl (Nat.le_of_ble_eq_true rfl) dL_law_878 ⟨by show _ ≤ 601024; omega, by show _ ≤ 7293000; omega⟩).run (fun r7 hr7 => ?_)
    subst hr7
    refine lv_iload hx hb dL_law_881 (lv_at hl 1 rfl) ?_
    refine lv_icmp_eq (tgt := 888) hx hb dL_law_883 (by decide) (fun c_1 => ?_) (fun c_1 => absurd rfl c_1)
    refine lv_iload hx hb dL_law_888 (lv_at hl 1 rfl) ?_
    refine lv_if_ne (tgt := 926) hx hb dL_law_890 (by decide) (fun c_2 => absurd nI_0 c_2) (fun c_2 => ?_)
    refine lv_aload hx hb dL_law_893 (lv_at hl 7 rfl) ?_
    refine lv_iconst (v := nI 0) hx hb dL_law_895 (by decide) ?_
    refine lz_dald hx hb hKJ hP dL_law_896 ?_
    have hve : r8 = sgt (sS x) (xs ((1 + 6 * j) + 1)).toInt (tn (xs ((1 + 6 * j) + 2))) := hr8.trans rfl
    have hfin : fF (sgt (sS x) (xs ((1 + 6 * j) + 1)).toInt (tn (xs ((1 + 6 * j) + 2)))) := sgt_fin hOk _ _
    refine lv_fload hx hb dL_law_897 (lv_at hl 0 rfl) ?_
    refine lv_f2d hx hb dL_law_899 (fl_f2d (by rw [hve]; exact hfin)) ?_
    refine lv_dcmp hx hb dL_law_900 ?_
    refine lv_if_eq (tgt := 926) hx hb dL_law_901 (by decide) (fun c_3 => ?_) (fun c_3 => absurd (by rw [hg, hve, fl_dself (fl_F hfin)]; decide) c_3)
    refine lv_goto (tgt := 1310) hx hb dL_law_926 (by decide) ?_
    exact hN ev R x _ _ wC9 wM9 fJ g ⟨hwC2, hwM2, hR, hOk, hs, by omega⟩ H locs ls hP hD hS (lv_sub hl [2, 3, 4, 5, 6, 7] rfl)
  · have hwC2 := hk1 (by omega)
    have hwM2 := hm1 (by omega)
    have hl : lv_has ls 10 [(7, .float r8), (6, .int (nI k9)), (5, .int (nI (1 + 6 * j))), (0, .ref b), (1, .ref (o 0)), (2, .ref (u 0)), (3, .ref aJ), (4, .ref aD)] := hl
    refine lv_aload_n hx hb dL_law_877 rfl (lv_at hl 5 rfl) ?_
    have hPm : va_P D vwCl wM9 H := lz_cutP (lw_pM (eJ cJ aJ fJ) (eD cD aD g) wC9 wM9) hP
    have hDm : va_D (lwA s) wM9 := lz_cutD (lw_pM (eJ cJ aJ fJ) (eD cD aD g) wC9 wM9) hD
    obtain ⟨r1, r2, r3, f1, f2, f3, f4, k1, kc, -, -, -, hwe2⟩ := id hwM2
    have hPr := id hPm
    rw [hwe2] at hPr
    refine vp_callSi (lz_runV (C := RX4) (As := []) (rest := []) hC hS hl (c_X4_thrown hwM2) (cwV 0 hts gL_law_X4_thrown rfl rfl rfl (by decide +kernel) ⟨Nat.le_of_ble_eq_true rfl, Nat.le_of_ble_eq_true rfl⟩) hPm hDm (va_recv hK hPr (ci := 4) (q0 := 0) rfl rfl) rfl rfl (Nat.le_of_ble_eq_true rfl) dL_law_878 ⟨by show _ ≤ 601024; omega, by show _ ≤ 7293000; omega⟩).run (fun r7 hr7 => ?_)
    subst hr7
    refine lv_iload hx hb dL_law_881 (lv_at hl 1 rfl) ?_
    refine lv_icmp_eq (tgt := 888) hx hb dL_law_883 (by decide) (fun c_4 => ?_) (fun c_4 => absurd rfl c_4)
    refine lv_iload hx hb dL_law_888 (lv_at hl 1 rfl) ?_
    refine lv_if_ne (tgt := 926) hx hb dL_law_890 (by decide) (fun c_5 => ?_) (fun c_5 => absurd c_5 (fun q9 => absurd ((iz_ne0 (by omega)).mp q9) (by omega)))
    refine lv_goto (tgt := 1310) hx hb dL_law_926 (by decide) ?_
    exact hN ev R x (stL x M) _ wC9 wM9 fJ g ⟨hwC2, hwM2, hR, hOk, hs, by omega⟩ H locs ls hP hD hS (lv_sub hl [2, 3, 4, 5, 6, 7] rfl)

set_option maxRecDepth 100000 in
set_option maxHeartbeats 4000000 in
/-- case 11: differs -/
theorem law_11 {p : Program} {l : Launch} {e : Env} {m : MethodId} {c : Code} {s : State} {below : List Frame} {meth : Method} {b L : Nat} {xs : Nat → Int32} {D : va_G} {cI cF cQ cJ cD : ClassId} {aT : Nat} {o u : Nat → Nat} {aJ aD n j ev : Nat} {R : List dI} {x y : St} {th : Int32} {wC wM : va_W} {fJ : Nat → Int64} {fD : Nat → UInt64} {H : Heap} {locs : List Loc} {ls : Array Slot} (h0 : lwC p l m c s b L xs D cI cF cQ cJ cD aT) (hj : j ≤ 511) (hi : 1 + 6 * j + 6 ≤ L) (hN : lwN p l e m c s below meth b D cI cF cQ cJ cD o u aJ aD n j) (hI : LI cI cF cQ o u n j ev R x y th wC wM) (hP : va_P D vwCl (eJ cJ aJ fJ :: eD cD aD fD :: (wC ++ wM)) H) (hD : va_D (lwA s) (eJ cJ aJ fJ :: eD cD aD fD :: (wC ++ wM))) (hS : va_S (lwA s) s.heap H locs) (hl : lv_has ls 10 (lwL b (o 0) (u 0) aJ aD (1 + 6 * j))) : W p l e room_1 s m #[Value.ref b] below meth c H locs (46 + 8 * j) (13635 + 48 * j) (lw_Z below #[Value.ref b] s) (F0 m 929 ls []) := by
  obtain ⟨hC, hKJ, hX, hbl, hL⟩ := id h0
  have hx := hC.1.1
  have hb := hC.1.2.1
  have hml := hC.1.2.2.1
  have hown : s.vm.findClass RL = some m.cls := hC.1.2.2.2.1
  have hts := hC.1.2.2.2.2
  have hA := hC.2.1
  have hK := hC.2.2.2.1
  have hbA : ¬ lwA s b := Nat.not_le.mpr hbl
  obtain ⟨hwC, hwM, hR, hOk, hs, hT⟩ := id hI
  obtain ⟨M, rfl, hLR⟩ := rel_eq hR
  have hOkY := hR.ok hOk
  have hn9 := hOk.1.2
  have hL9 : rIn n (sL x) := hOk.2.2.2.2.2.1
  have hT9 : sT x ≤ 64 * 511 := by omega
  have hl : lv_has ls 10 [(5, .int (nI (1 + 6 * j))), (0, .ref b), (1, .ref (o 0)), (2, .ref (u 0)), (3, .ref aJ), (4, .ref aD)] := hl
  refine lv_aload_n hx hb dL_law_929 rfl (lv_at hl 2 rfl) ?_
  refine lv_aload_n hx hb dL_law_930 rfl (lv_at hl 1 rfl) ?_
  refine lv_iload hx hb dL_law_931 (lv_at hl 0 rfl) ?_
  refine lv_iconst (v := nI 1) hx hb dL_law_933 (by decide) ?_
  refine lv_iadd hx hb dL_law_934 ?_
  refine lz_i (nI_add _ _) ?_
  refine lz_sld hx hb hX hbl hbA hS (k := ((1 + 6 * j) + 1)) (by omega) (by omega) dL_law_935 ?_
  refine lv_aload_n hx hb dL_law_936 rfl (lv_at hl 4 rfl) ?_
  have hPc : va_P D vwCl ((eJ cJ aJ fJ) :: wC) H := lz_cutP (lw_pJ (eJ cJ aJ fJ) (eD cD aD fD) wC wM) hP
  have hDc : va_D (lwA s) ((eJ cJ aJ fJ) :: wC) := lz_cutD (lw_pJ (eJ cJ aJ fJ) (eD cD aD fD) wC wM) hD
  refine lz_cMi (w2 := fun w1 => w1 ++ ((eD cD aD fD) :: wM)) (lz_runSH (As := [.ref (o 0), .int (xs ((1 + 6 * j) + 1)), .ref aJ]) (rest := []) hC hKJ hS hl (c_L_differs hwC hOk hs) (vx_cwSW 3 hts gL_law_L_differs rfl rfl rfl (by decide +kernel) ⟨Nat.le_of_ble_eq_true rfl, Nat.le_of_ble_eq_true rfl⟩) hPc hDc rfl rfl (Nat.le_of_ble_eq_true rfl) dL_law_937 ⟨by show _ ≤ 601024; omega, by show _ ≤ 7293000; omega⟩) hP hD hS hA (lw_pJ (eJ cJ aJ fJ) (eD cD aD fD) wC wM) (fun r w1 h => by obtain ⟨k, wC9, g, -, -, rfl, h0, h1⟩ := h; exact congrArg (List.cons aJ) ((Nat.eq_zero_or_pos k).elim (fun hk => (h0 hk).2.ad2 hwC) (fun hk => (h1 (by omega)).ad2 hwC))) (fun _ => List.Perm.refl _) (fun r9 w1 H locs hpo hP hD hS => ?_)
  obtain ⟨k9, wC9, g, rfl, hk9, rfl, hk0, hk1⟩ := hpo
  replace hP := lz_permP (lw_pJ (eJ cJ aJ g) (eD cD aD fD) wC9 wM).symm hP
  replace hD := lz_permD (lw_pJ (eJ cJ aJ g) (eD cD aD fD) wC9 wM).symm hD
  refine lv_istore (lv' := [(6, .int (nI k9)), (5, .int (nI (1 + 6 * j))), (0, .ref b), (1, .ref (o 0)), (2, .ref (u 0)), (3, .ref aJ), (4, .ref aD)]) hx hb dL_law_940 hl (by decide) rfl (fun ls hl => ?_)
  refine lv_aload_n hx hb dL_law_942 rfl (lv_at hl 4 rfl) ?_
  refine lv_aload_n hx hb dL_law_943 rfl (lv_at hl 2 rfl) ?_
  refine lv_iload hx hb dL_law_944 (lv_at hl 1 rfl) ?_
  refine lv_iconst (v := nI 1) hx hb dL_law_946 (by decide) ?_
  refine lv_iadd hx hb dL_law_947 ?_
  refine lz_i (nI_add _ _) ?_
  refine lz_sld hx hb hX hbl hbA hS (k := ((1 + 6 * j) + 1)) (by omega) (by omega) dL_law_948 ?_
  have hPm : va_P D vwCl wM H := lz_cutP (lw_pM (eJ cJ aJ g) (eD cD aD fD) wC9 wM) hP
  have hDm : va_D (lwA s) wM := lz_cutD (lw_pM (eJ cJ aJ g) (eD cD aD fD) wC9 wM) hD
  obtain ⟨r1, r2, r3, f1, f2, f3, f4, k1, kc, -, -, -, hwe⟩ := id hwM
  have hPr := id hPm
  rw [hwe] at hPr
  refine lz_cMi (w2 := fun w1 => w1 ++ (eJ cJ aJ g :: eD cD aD fD :: wC9)) (lz_runV (C := RX4) (As := [.int (xs ((1 + 6 * j) + 1))]) (rest := []) hC hS hl (c_X4_differs hwM hOkY) (cwV 1 hts gL_law_X4_differs rfl rfl rfl (by decide +kernel) ⟨Nat.le_of_ble_eq_true rfl, Nat.le_of_ble_eq_true rfl⟩) hPm hDm (va_recv hK hPr (ci := 4) (q0 := 0) rfl rfl) rfl rfl (Nat.le_of_ble_eq_true rfl) dL_law_949 ⟨by show _ ≤ 601024; omega, by show _ ≤ 7293000; omega⟩) hP hD hS hA (lw_pM (eJ cJ aJ g) (eD cD aD fD) wC9 wM) (fun r w1 h => by obtain ⟨k, -, h0, h1⟩ := h; exact (Nat.eq_zero_or_pos k).elim (fun hk => (h0 hk).2.ad2 hwM) (fun hk => (h1 (by omega)).ad2 hwM)) (fun _ => List.Perm.refl _) (fun r8 wM9 H locs hpo hP hD hS => ?_)
  obtain ⟨k8, hk8, hm0, hm1⟩ := hpo
  have hk7 : cdR (plc (sS x) (xs ((1 + 6 * j) + 1)).toInt ≠ none) True True k8 := cdR_iff Iff.rfl Iff.rfl Iff.rfl hk8
  have hkk : k9 = k8 := cdR_fun hk9 hk7
  subst hkk
  have hlt := cdR_lt hk9
  replace hP := lz_permP (lw_pM (eJ cJ aJ g) (eD cD aD fD) wC9 wM9).symm hP
  replace hD := lz_permD (lw_pM (eJ cJ aJ g) (eD cD aD fD) wC9 wM9).symm hD
  refine lv_istore (lv' := [(7, .int r8), (6, .int (nI k9)), (5, .int (nI (1 + 6 * j))), (0, .ref b), (1, .ref (o 0)), (2, .ref (u 0)), (3, .ref aJ), (4, .ref aD)]) hx hb dL_law_952 hl (by decide) rfl (fun ls hl => ?_)
  rcases Nat.eq_zero_or_pos k9 with hkz | hkz
  · subst hkz
    obtain ⟨hg, hwC2⟩ := hk0 rfl
    obtain ⟨hr8, hwM2⟩ := hm0 rfl
    have hpp := cdR_0 hk9 rfl
    have hl : lv_has ls 10 [(7, .int r8), (6, .int (nI 0)), (5, .int (nI (1 + 6 * j))), (0, .ref b), (1, .ref (o 0)), (2, .ref (u 0)), (3, .ref aJ), (4, .ref aD)] := hl
    refine lv_aload_n hx hb dL_law_954 rfl (lv_at hl 5 rfl) ?_
    have hPm : va_P D vwCl wM9 H := lz_cutP (lw_pM (eJ cJ aJ g) (eD cD aD fD) wC9 wM9) hP
    have hDm : va_D (lwA s) wM9 := lz_cutD (lw_pM (eJ cJ aJ g) (eD cD aD fD) wC9 wM9) hD
    obtain ⟨r1, r2, r3, f1, f2, f3, f4, k1, kc, -, -, -, hwe2⟩ := id hwM2
    have hPr := id hPm
    rw [hwe2] at hPr
    refine vp_callSi (lz_runV (C := RX4) (As := []) (rest := []) hC hS hl (c_X4_thrown hwM2) (cwV 0 hts gL_law_X4_thrown rfl rfl rfl (by decide +kernel) ⟨Nat.le_of_ble_eq_true rfl, Nat.le_of_ble_eq_true rfl⟩) hPm hDm (va_recv hK hPr (ci := 4) (q0 := 0) rfl rfl) rfl rfl (Nat.le_of_ble_eq_true rfl) dL_law_955 ⟨by show _ ≤ 601024; omega, by show _ ≤ 7293000; omega⟩).run (fun r7 hr7 => ?_)
    subst hr7
    refine lv_iload hx hb dL_law_958 (lv_at hl 1 rfl) ?_
    refine lv_icmp_eq (tgt := 965) hx hb dL_law_960 (by decide) (fun c_1 => ?_) (fun c_1 => absurd rfl c_1)
    refine lv_iload hx hb dL_law_965 (lv_at hl 1 rfl) ?_
    refine lv_if_ne (tgt := 982) hx hb dL_law_967 (by decide) (fun c_2 => absurd nI_0 c_2) (fun c_2 => ?_)
    refine lv_aload_n hx hb dL_law_970 rfl (lv_at hl 6 rfl) ?_
    refine lv_iconst (v := nI 0) hx hb dL_law_971 (by decide) ?_
    refine lz_lald hx hb hKJ hP dL_law_972 ?_
    refine lv_iload hx hb dL_law_973 (lv_at hl 0 rfl) ?_
    refine lv_i2l (v := r8.toInt64) hx hb dL_law_975 rfl ?_
    refine W.lcmp hx hb dL_law_976 ?_
    have hve : r8 = dif (sc x) (sgt (sS x) (xs ((1 + 6 * j) + 1)).toInt) n 0 := hr8.trans rfl
    refine lv_if_eq (tgt := 982) hx hb dL_law_977 (by decide) (fun c_3 => ?_) (fun c_3 => absurd (by rw [hg, hve]; exact lg_self _) c_3)
    refine lv_goto (tgt := 1310) hx hb dL_law_982 (by decide) ?_
    exact hN ev R x _ _ wC9 wM9 g fD ⟨hwC2, hwM2, hR, hOk, hs, by omega⟩ H locs ls hP hD hS (lv_sub hl [2, 3, 4, 5, 6, 7] rfl)
  · have hwC2 := hk1 (by omega)
    have hwM2 := hm1 (by omega)
    have hl : lv_has ls 10 [(7, .int r8), (6, .int (nI k9)), (5, .int (nI (1 + 6 * j))), (0, .ref b), (1, .ref (o 0)), (2, .ref (u 0)), (3, .ref aJ), (4, .ref aD)] := hl
    refine lv_aload_n hx hb dL_law_954 rfl (lv_at hl 5 rfl) ?_
    have hPm : va_P D vwCl wM9 H := lz_cutP (lw_pM (eJ cJ aJ g) (eD cD aD fD) wC9 wM9) hP
    have hDm : va_D (lwA s) wM9 := lz_cutD (lw_pM (eJ cJ aJ g) (eD cD aD fD) wC9 wM9) hD
    obtain ⟨r1, r2, r3, f1, f2, f3, f4, k1, kc, -, -, -, hwe2⟩ := id hwM2
    have hPr := id hPm
    rw [hwe2] at hPr
    refine vp_callSi (lz_runV (C := RX4) (As := []) (rest := []) hC hS hl (c_X4_thrown hwM2) (cwV 0 hts gL_law_X4_thrown rfl rfl rfl (by decide +kernel) ⟨Nat.le_of_ble_eq_true rfl, Nat.le_of_ble_eq_true rfl⟩) hPm hDm (va_recv hK hPr (ci := 4) (q0 := 0) rfl rfl) rfl rfl (Nat.le_of_ble_eq_true rfl) dL_law_955 ⟨by show _ ≤ 601024; omega, by show _ ≤ 7293000; omega⟩).run (fun r7 hr7 => ?_)
    subst hr7
    refine lv_iload hx hb dL_law_958 (lv_at hl 1 rfl) ?_
    refine lv_icmp_eq (tgt := 965) hx hb dL_law_960 (by decide) (fun c_4 => ?_) (fun c_4 => absurd rfl c_4)
    refine lv_iload hx hb dL_law_965 (lv_at hl 1 rfl) ?_
    refine lv_if_ne (tgt := 982) hx hb dL_law_967 (by decide) (fun c_5 => ?_) (fun c_5 => absurd c_5 (fun q9 => absurd ((iz_ne0 (by omega)).mp q9) (by omega)))
    refine lv_goto (tgt := 1310) hx hb dL_law_982 (by decide) ?_
    exact hN ev R x (stL x M) _ wC9 wM9 g fD ⟨hwC2, hwM2, hR, hOk, hs, by omega⟩ H locs ls hP hD hS (lv_sub hl [2, 3, 4, 5, 6, 7] rfl)

set_option maxRecDepth 100000 in
set_option maxHeartbeats 4000000 in
/-- case 12: snapshot -/
theorem law_12 {p : Program} {l : Launch} {e : Env} {m : MethodId} {c : Code} {s : State} {below : List Frame} {meth : Method} {b L : Nat} {xs : Nat → Int32} {D : va_G} {cI cF cQ cJ cD : ClassId} {aT : Nat} {o u : Nat → Nat} {aJ aD n j ev : Nat} {R : List dI} {x y : St} {th : Int32} {wC wM : va_W} {fJ : Nat → Int64} {fD : Nat → UInt64} {H : Heap} {locs : List Loc} {ls : Array Slot} (h0 : lwC p l m c s b L xs D cI cF cQ cJ cD aT) (hj : j ≤ 511) (hi : 1 + 6 * j + 6 ≤ L) (hN : lwN p l e m c s below meth b D cI cF cQ cJ cD o u aJ aD n j) (hI : LI cI cF cQ o u n j ev R x y th wC wM) (hP : va_P D vwCl (eJ cJ aJ fJ :: eD cD aD fD :: (wC ++ wM)) H) (hD : va_D (lwA s) (eJ cJ aJ fJ :: eD cD aD fD :: (wC ++ wM))) (hS : va_S (lwA s) s.heap H locs) (hl : lv_has ls 10 (lwL b (o 0) (u 0) aJ aD (1 + 6 * j))) : W p l e room_1 s m #[Value.ref b] below meth c H locs (46 + 8 * j) (13635 + 48 * j) (lw_Z below #[Value.ref b] s) (F0 m 985 ls []) := by
  obtain ⟨hC, hKJ, hX, hbl, hL⟩ := id h0
  have hx := hC.1.1
  have hb := hC.1.2.1
  have hml := hC.1.2.2.1
  have hown : s.vm.findClass RL = some m.cls := hC.1.2.2.2.1
  have hts := hC.1.2.2.2.2
  have hA := hC.2.1
  have hK := hC.2.2.2.1
  have hbA : ¬ lwA s b := Nat.not_le.mpr hbl
  obtain ⟨hwC, hwM, hR, hOk, hs, hT⟩ := id hI
  obtain ⟨M, rfl, hLR⟩ := rel_eq hR
  have hOkY := hR.ok hOk
  have hn9 := hOk.1.2
  have hL9 : rIn n (sL x) := hOk.2.2.2.2.2.1
  have hT9 : sT x ≤ 64 * 511 := by omega
  have hl : lv_has ls 10 [(5, .int (nI (1 + 6 * j))), (0, .ref b), (1, .ref (o 0)), (2, .ref (u 0)), (3, .ref aJ), (4, .ref aD)] := hl
  refine lv_aload_n hx hb dL_law_985 rfl (lv_at hl 2 rfl) ?_
  refine lv_aload_n hx hb dL_law_986 rfl (lv_at hl 1 rfl) ?_
  refine lv_iload hx hb dL_law_987 (lv_at hl 0 rfl) ?_
  refine lv_iconst (v := nI 1) hx hb dL_law_989 (by decide) ?_
  refine lv_iadd hx hb dL_law_990 ?_
  refine lz_i (nI_add _ _) ?_
  refine lz_sld hx hb hX hbl hbA hS (k := ((1 + 6 * j) + 1)) (by omega) (by omega) dL_law_991 ?_
  refine lv_aload_n hx hb dL_law_992 rfl (lv_at hl 4 rfl) ?_
  have hPc : va_P D vwCl ((eJ cJ aJ fJ) :: wC) H := lz_cutP (lw_pJ (eJ cJ aJ fJ) (eD cD aD fD) wC wM) hP
  have hDc : va_D (lwA s) ((eJ cJ aJ fJ) :: wC) := lz_cutD (lw_pJ (eJ cJ aJ fJ) (eD cD aD fD) wC wM) hD
  refine lz_cMi (w2 := fun w1 => w1 ++ ((eD cD aD fD) :: wM)) (lz_runSH (As := [.ref (o 0), .int (xs ((1 + 6 * j) + 1)), .ref aJ]) (rest := []) hC hKJ hS hl (c_L_snapshot hwC hOk hs) (vx_cwSW 3 hts gL_law_L_snapshot rfl rfl rfl (by decide +kernel) ⟨Nat.le_of_ble_eq_true rfl, Nat.le_of_ble_eq_true rfl⟩) hPc hDc rfl rfl (Nat.le_of_ble_eq_true rfl) dL_law_993 ⟨by show _ ≤ 601024; omega, by show _ ≤ 7293000; omega⟩) hP hD hS hA (lw_pJ (eJ cJ aJ fJ) (eD cD aD fD) wC wM) (fun r w1 h => by obtain ⟨k, wC9, g, -, -, rfl, h0, h1⟩ := h; exact congrArg (List.cons aJ) ((Nat.eq_zero_or_pos k).elim (fun hk => (h0 hk).2.ad2 hwC) (fun hk => (h1 (by omega)).ad2 hwC))) (fun _ => List.Perm.refl _) (fun r9 w1 H locs hpo hP hD hS => ?_)
  obtain ⟨k9, wC9, g, rfl, hk9, rfl, hk0, hk1⟩ := hpo
  replace hP := lz_permP (lw_pJ (eJ cJ aJ g) (eD cD aD fD) wC9 wM).symm hP
  replace hD := lz_permD (lw_pJ (eJ cJ aJ g) (eD cD aD fD) wC9 wM).symm hD
  refine lv_istore (lv' := [(6, .int (nI k9)), (5, .int (nI (1 + 6 * j))), (0, .ref b), (1, .ref (o 0)), (2, .ref (u 0)), (3, .ref aJ), (4, .ref aD)]) hx hb dL_law_996 hl (by decide) rfl (fun ls hl => ?_)
  refine lv_aload_n hx hb dL_law_998 rfl (lv_at hl 4 rfl) ?_
  refine lv_aload_n hx hb dL_law_999 rfl (lv_at hl 2 rfl) ?_
  refine lv_iload hx hb dL_law_1000 (lv_at hl 1 rfl) ?_
  refine lv_iconst (v := nI 1) hx hb dL_law_1002 (by decide) ?_
  refine lv_iadd hx hb dL_law_1003 ?_
  refine lz_i (nI_add _ _) ?_
  refine lz_sld hx hb hX hbl hbA hS (k := ((1 + 6 * j) + 1)) (by omega) (by omega) dL_law_1004 ?_
  have hPm : va_P D vwCl wM H := lz_cutP (lw_pM (eJ cJ aJ g) (eD cD aD fD) wC9 wM) hP
  have hDm : va_D (lwA s) wM := lz_cutD (lw_pM (eJ cJ aJ g) (eD cD aD fD) wC9 wM) hD
  obtain ⟨r1, r2, r3, f1, f2, f3, f4, k1, kc, -, -, -, hwe⟩ := id hwM
  have hPr := id hPm
  rw [hwe] at hPr
  refine lz_cMi (w2 := fun w1 => w1 ++ (eJ cJ aJ g :: eD cD aD fD :: wC9)) (lz_runV (C := RX4) (As := [.int (xs ((1 + 6 * j) + 1))]) (rest := []) hC hS hl (c_X4_snapshot hwM hOkY) (cwV 1 hts gL_law_X4_snapshot rfl rfl rfl (by decide +kernel) ⟨Nat.le_of_ble_eq_true rfl, Nat.le_of_ble_eq_true rfl⟩) hPm hDm (va_recv hK hPr (ci := 4) (q0 := 0) rfl rfl) rfl rfl (Nat.le_of_ble_eq_true rfl) dL_law_1005 ⟨by show _ ≤ 601024; omega, by show _ ≤ 7293000; omega⟩) hP hD hS hA (lw_pM (eJ cJ aJ g) (eD cD aD fD) wC9 wM) (fun r w1 h => by obtain ⟨k, -, h0, h1⟩ := h; exact (Nat.eq_zero_or_pos k).elim (fun hk => (h0 hk).2.ad2 hwM) (fun hk => (h1 (by omega)).ad2 hwM)) (fun _ => List.Perm.refl _) (fun r8 wM9 H locs hpo hP hD hS => ?_)
  obtain ⟨k8, hk8, hm0, hm1⟩ := hpo
  have hk7 : cdR (0 ≤ (xs ((1 + 6 * j) + 1)).toInt ∧ (xs ((1 + 6 * j) + 1)).toInt < ((sS x).length : Int)) True True k8 := cdR_iff Iff.rfl Iff.rfl Iff.rfl hk8
  have hkk : k9 = k8 := cdR_fun hk9 hk7
  subst hkk
  have hlt := cdR_lt hk9
  replace hP := lz_permP (lw_pM (eJ cJ aJ g) (eD cD aD fD) wC9 wM9).symm hP
  replace hD := lz_permD (lw_pM (eJ cJ aJ g) (eD cD aD fD) wC9 wM9).symm hD
  refine lv_istore (lv' := [(7, .int r8), (6, .int (nI k9)), (5, .int (nI (1 + 6 * j))), (0, .ref b), (1, .ref (o 0)), (2, .ref (u 0)), (3, .ref aJ), (4, .ref aD)]) hx hb dL_law_1008 hl (by decide) rfl (fun ls hl => ?_)
  rcases Nat.eq_zero_or_pos k9 with hkz | hkz
  · subst hkz
    obtain ⟨hg, hwC2⟩ := hk0 rfl
    obtain ⟨hr8, hwM2⟩ := hm0 rfl
    have hpp := cdR_0 hk9 rfl
    have hl : lv_has ls 10 [(7, .int r8), (6, .int (nI 0)), (5, .int (nI (1 + 6 * j))), (0, .ref b), (1, .ref (o 0)), (2, .ref (u 0)), (3, .ref aJ), (4, .ref aD)] := hl
    refine lv_aload_n hx hb dL_law_1010 rfl (lv_at hl 5 rfl) ?_
    have hPm : va_P D vwCl wM9 H := lz_cutP (lw_pM (eJ cJ aJ g) (eD cD aD fD) wC9 wM9) hP
    have hDm : va_D (lwA s) wM9 := lz_cutD (lw_pM (eJ cJ aJ g) (eD cD aD fD) wC9 wM9) hD
    obtain ⟨r1, r2, r3, f1, f2, f3, f4, k1, kc, -, -, -, hwe2⟩ := id hwM2
    have hPr := id hPm
    rw [hwe2] at hPr
    refine vp_callSi (lz_runV (C := RX4) (As := []) (rest := []) hC hS hl (c_X4_thrown hwM2) (cwV 0 hts gL_law_X4_thrown rfl rfl rfl (by decide +kernel) ⟨Nat.le_of_ble_eq_true rfl, Nat.le_of_ble_eq_true rfl⟩) hPm hDm (va_recv hK hPr (ci := 4) (q0 := 0) rfl rfl) rfl rfl (Nat.le_of_ble_eq_true rfl) dL_law_1011 ⟨by show _ ≤ 601024; omega, by show _ ≤ 7293000; omega⟩).run (fun r7 hr7 => ?_)
    subst hr7
    refine lv_iload hx hb dL_law_1014 (lv_at hl 1 rfl) ?_
    refine lv_icmp_eq (tgt := 1021) hx hb dL_law_1016 (by decide) (fun c_1 => ?_) (fun c_1 => absurd rfl c_1)
    refine lv_iload hx hb dL_law_1021 (lv_at hl 1 rfl) ?_
    refine lv_if_ne (tgt := 1038) hx hb dL_law_1023 (by decide) (fun c_2 => absurd nI_0 c_2) (fun c_2 => ?_)
    refine lv_aload_n hx hb dL_law_1026 rfl (lv_at hl 6 rfl) ?_
    refine lv_iconst (v := nI 0) hx hb dL_law_1027 (by decide) ?_
    refine lz_lald hx hb hKJ hP dL_law_1028 ?_
    refine lv_iload hx hb dL_law_1029 (lv_at hl 0 rfl) ?_
    refine lv_i2l (v := r8.toInt64) hx hb dL_law_1031 rfl ?_
    refine W.lcmp hx hb dL_law_1032 ?_
    have hve : r8 = snv (sS x) (tn (xs ((1 + 6 * j) + 1))) := hr8.trans rfl
    refine lv_if_eq (tgt := 1038) hx hb dL_law_1033 (by decide) (fun c_3 => ?_) (fun c_3 => absurd (by rw [hg, hve]; exact lg_self _) c_3)
    refine lv_goto (tgt := 1310) hx hb dL_law_1038 (by decide) ?_
    exact hN ev R x _ _ wC9 wM9 g fD ⟨hwC2, hwM2, hR, hOk, hs, by omega⟩ H locs ls hP hD hS (lv_sub hl [2, 3, 4, 5, 6, 7] rfl)
  · have hwC2 := hk1 (by omega)
    have hwM2 := hm1 (by omega)
    have hl : lv_has ls 10 [(7, .int r8), (6, .int (nI k9)), (5, .int (nI (1 + 6 * j))), (0, .ref b), (1, .ref (o 0)), (2, .ref (u 0)), (3, .ref aJ), (4, .ref aD)] := hl
    refine lv_aload_n hx hb dL_law_1010 rfl (lv_at hl 5 rfl) ?_
    have hPm : va_P D vwCl wM9 H := lz_cutP (lw_pM (eJ cJ aJ g) (eD cD aD fD) wC9 wM9) hP
    have hDm : va_D (lwA s) wM9 := lz_cutD (lw_pM (eJ cJ aJ g) (eD cD aD fD) wC9 wM9) hD
    obtain ⟨r1, r2, r3, f1, f2, f3, f4, k1, kc, -, -, -, hwe2⟩ := id hwM2
    have hPr := id hPm
    rw [hwe2] at hPr
    refine vp_callSi (lz_runV (C := RX4) (As := []) (rest := []) hC hS hl (c_X4_thrown hwM2) (cwV 0 hts gL_law_X4_thrown rfl rfl rfl (by decide +kernel) ⟨Nat.le_of_ble_eq_true rfl, Nat.le_of_ble_eq_true rfl⟩) hPm hDm (va_recv hK hPr (ci := 4) (q0 := 0) rfl rfl) rfl rfl (Nat.le_of_ble_eq_true rfl) dL_law_1011 ⟨by show _ ≤ 601024; omega, by show _ ≤ 7293000; omega⟩).run (fun r7 hr7 => ?_)
    subst hr7
    refine lv_iload hx hb dL_law_1014 (lv_at hl 1 rfl) ?_
    refine lv_icmp_eq (tgt := 1021) hx hb dL_law_1016 (by decide) (fun c_4 => ?_) (fun c_4 => absurd rfl c_4)
    refine lv_iload hx hb dL_law_1021 (lv_at hl 1 rfl) ?_
    refine lv_if_ne (tgt := 1038) hx hb dL_law_1023 (by decide) (fun c_5 => ?_) (fun c_5 => absurd c_5 (fun q9 => absurd ((iz_ne0 (by omega)).mp q9) (by omega)))
    refine lv_goto (tgt := 1310) hx hb dL_law_1038 (by decide) ?_
    exact hN ev R x (stL x M) _ wC9 wM9 g fD ⟨hwC2, hwM2, hR, hOk, hs, by omega⟩ H locs ls hP hD hS (lv_sub hl [2, 3, 4, 5, 6, 7] rfl)

set_option maxRecDepth 100000 in
set_option maxHeartbeats 4000000 in
/-- case 13: record -/
theorem law_13 {p : Program} {l : Launch} {e : Env} {m : MethodId} {c : Code} {s : State} {below : List Frame} {meth : Method} {b L : Nat} {xs : Nat → Int32} {D : va_G} {cI cF cQ cJ cD : ClassId} {aT : Nat} {o u : Nat → Nat} {aJ aD n j ev : Nat} {R : List dI} {x y : St} {th : Int32} {wC wM : va_W} {fJ : Nat → Int64} {fD : Nat → UInt64} {H : Heap} {locs : List Loc} {ls : Array Slot} (h0 : lwC p l m c s b L xs D cI cF cQ cJ cD aT) (hj : j ≤ 511) (hi : 1 + 6 * j + 6 ≤ L) (hN : lwN p l e m c s below meth b D cI cF cQ cJ cD o u aJ aD n j) (hI : LI cI cF cQ o u n j ev R x y th wC wM) (hP : va_P D vwCl (eJ cJ aJ fJ :: eD cD aD fD :: (wC ++ wM)) H) (hD : va_D (lwA s) (eJ cJ aJ fJ :: eD cD aD fD :: (wC ++ wM))) (hS : va_S (lwA s) s.heap H locs) (hl : lv_has ls 10 (lwL b (o 0) (u 0) aJ aD (1 + 6 * j))) : W p l e room_1 s m #[Value.ref b] below meth c H locs (46 + 8 * j) (13635 + 48 * j) (lw_Z below #[Value.ref b] s) (F0 m 1041 ls []) := by
  obtain ⟨hC, hKJ, hX, hbl, hL⟩ := id h0
  have hx := hC.1.1
  have hb := hC.1.2.1
  have hml := hC.1.2.2.1
  have hown : s.vm.findClass RL = some m.cls := hC.1.2.2.2.1
  have hts := hC.1.2.2.2.2
  have hA := hC.2.1
  have hK := hC.2.2.2.1
  have hbA : ¬ lwA s b := Nat.not_le.mpr hbl
  obtain ⟨hwC, hwM, hR, hOk, hs, hT⟩ := id hI
  obtain ⟨M, rfl, hLR⟩ := rel_eq hR
  have hOkY := hR.ok hOk
  have hn9 := hOk.1.2
  have hL9 : rIn n (sL x) := hOk.2.2.2.2.2.1
  have hT9 : sT x ≤ 64 * 511 := by omega
  have hl : lv_has ls 10 [(5, .int (nI (1 + 6 * j))), (0, .ref b), (1, .ref (o 0)), (2, .ref (u 0)), (3, .ref aJ), (4, .ref aD)] := hl
  refine lv_aload_n hx hb dL_law_1041 rfl (lv_at hl 2 rfl) ?_
  refine lv_aload_n hx hb dL_law_1042 rfl (lv_at hl 1 rfl) ?_
  refine lv_iload hx hb dL_law_1043 (lv_at hl 0 rfl) ?_
  refine lv_iconst (v := nI 1) hx hb dL_law_1045 (by decide) ?_
  refine lv_iadd hx hb dL_law_1046 ?_
  refine lz_i (nI_add _ _) ?_
  refine lz_sld hx hb hX hbl hbA hS (k := ((1 + 6 * j) + 1)) (by omega) (by omega) dL_law_1047 ?_
  refine lv_aload_n hx hb dL_law_1048 rfl (lv_at hl 1 rfl) ?_
  refine lv_iload hx hb dL_law_1049 (lv_at hl 0 rfl) ?_
  refine lv_iconst (v := nI 2) hx hb dL_law_1051 (by decide) ?_
  refine lv_iadd hx hb dL_law_1052 ?_
  refine lz_i (nI_add _ _) ?_
  refine lz_sld hx hb hX hbl hbA hS (k := ((1 + 6 * j) + 2)) (by omega) (by omega) dL_law_1053 ?_
  refine lv_aload_n hx hb dL_law_1054 rfl (lv_at hl 1 rfl) ?_
  refine lv_iload hx hb dL_law_1055 (lv_at hl 0 rfl) ?_
  refine lv_iconst (v := nI 3) hx hb dL_law_1057 (by decide) ?_
  refine lv_iadd hx hb dL_law_1058 ?_
  refine lz_i (nI_add _ _) ?_
  refine lz_sld hx hb hX hbl hbA hS (k := ((1 + 6 * j) + 3)) (by omega) (by omega) dL_law_1059 ?_
  refine lv_aload_n hx hb dL_law_1060 rfl (lv_at hl 4 rfl) ?_
  have hPc : va_P D vwCl ((eJ cJ aJ fJ) :: wC) H := lz_cutP (lw_pJ (eJ cJ aJ fJ) (eD cD aD fD) wC wM) hP
  have hDc : va_D (lwA s) ((eJ cJ aJ fJ) :: wC) := lz_cutD (lw_pJ (eJ cJ aJ fJ) (eD cD aD fD) wC wM) hD
  refine lz_cMi (w2 := fun w1 => w1 ++ ((eD cD aD fD) :: wM)) (lz_runSH (As := [.ref (o 0), .int (xs ((1 + 6 * j) + 1)), .int (xs ((1 + 6 * j) + 2)), .int (xs ((1 + 6 * j) + 3)), .ref aJ]) (rest := []) hC hKJ hS hl (c_L_record hwC hOk hs) (vx_cwSW 5 hts gL_law_L_record rfl rfl rfl (by decide +kernel) ⟨Nat.le_of_ble_eq_true rfl, Nat.le_of_ble_eq_true rfl⟩) hPc hDc rfl rfl (Nat.le_of_ble_eq_true rfl) dL_law_1061 ⟨by show _ ≤ 601024; omega, by show _ ≤ 7293000; omega⟩) hP hD hS hA (lw_pJ (eJ cJ aJ fJ) (eD cD aD fD) wC wM) (fun r w1 h => by obtain ⟨k, wC9, g, -, -, rfl, h0, h1⟩ := h; exact congrArg (List.cons aJ) ((Nat.eq_zero_or_pos k).elim (fun hk => (h0 hk).2.ad2 hwC) (fun hk => (h1 (by omega)).ad2 hwC))) (fun _ => List.Perm.refl _) (fun r9 w1 H locs hpo hP hD hS => ?_)
  obtain ⟨k9, wC9, g, rfl, hk9, rfl, hk0, hk1⟩ := hpo
  replace hP := lz_permP (lw_pJ (eJ cJ aJ g) (eD cD aD fD) wC9 wM).symm hP
  replace hD := lz_permD (lw_pJ (eJ cJ aJ g) (eD cD aD fD) wC9 wM).symm hD
  refine lv_istore (lv' := [(6, .int (nI k9)), (5, .int (nI (1 + 6 * j))), (0, .ref b), (1, .ref (o 0)), (2, .ref (u 0)), (3, .ref aJ), (4, .ref aD)]) hx hb dL_law_1064 hl (by decide) rfl (fun ls hl => ?_)
  refine lv_aload_n hx hb dL_law_1066 rfl (lv_at hl 4 rfl) ?_
  refine lv_aload_n hx hb dL_law_1067 rfl (lv_at hl 2 rfl) ?_
  refine lv_iload hx hb dL_law_1068 (lv_at hl 1 rfl) ?_
  refine lv_iconst (v := nI 1) hx hb dL_law_1070 (by decide) ?_
  refine lv_iadd hx hb dL_law_1071 ?_
  refine lz_i (nI_add _ _) ?_
  refine lz_sld hx hb hX hbl hbA hS (k := ((1 + 6 * j) + 1)) (by omega) (by omega) dL_law_1072 ?_
  refine lv_aload_n hx hb dL_law_1073 rfl (lv_at hl 2 rfl) ?_
  refine lv_iload hx hb dL_law_1074 (lv_at hl 1 rfl) ?_
  refine lv_iconst (v := nI 2) hx hb dL_law_1076 (by decide) ?_
  refine lv_iadd hx hb dL_law_1077 ?_
  refine lz_i (nI_add _ _) ?_
  refine lz_sld hx hb hX hbl hbA hS (k := ((1 + 6 * j) + 2)) (by omega) (by omega) dL_law_1078 ?_
  refine lv_aload_n hx hb dL_law_1079 rfl (lv_at hl 2 rfl) ?_
  refine lv_iload hx hb dL_law_1080 (lv_at hl 1 rfl) ?_
  refine lv_iconst (v := nI 3) hx hb dL_law_1082 (by decide) ?_
  refine lv_iadd hx hb dL_law_1083 ?_
  refine lz_i (nI_add _ _) ?_
  refine lz_sld hx hb hX hbl hbA hS (k := ((1 + 6 * j) + 3)) (by omega) (by omega) dL_law_1084 ?_
  have hPm : va_P D vwCl wM H := lz_cutP (lw_pM (eJ cJ aJ g) (eD cD aD fD) wC9 wM) hP
  have hDm : va_D (lwA s) wM := lz_cutD (lw_pM (eJ cJ aJ g) (eD cD aD fD) wC9 wM) hD
  obtain ⟨r1, r2, r3, f1, f2, f3, f4, k1, kc, -, -, -, hwe⟩ := id hwM
  have hPr := id hPm
  rw [hwe] at hPr
  refine lz_cMi (w2 := fun w1 => w1 ++ (eJ cJ aJ g :: eD cD aD fD :: wC9)) (lz_runV (C := RX4) (As := [.int (xs ((1 + 6 * j) + 1)), .int (xs ((1 + 6 * j) + 2)), .int (xs ((1 + 6 * j) + 3))]) (rest := []) hC hS hl (c_X4_record hwM hOkY) (cwV 3 hts gL_law_X4_record rfl rfl rfl (by decide +kernel) ⟨Nat.le_of_ble_eq_true rfl, Nat.le_of_ble_eq_true rfl⟩) hPm hDm (va_recv hK hPr (ci := 4) (q0 := 0) rfl rfl) rfl rfl (Nat.le_of_ble_eq_true rfl) dL_law_1085 ⟨by show _ ≤ 601024; omega, by show _ ≤ 7293000; omega⟩) hP hD hS hA (lw_pM (eJ cJ aJ g) (eD cD aD fD) wC9 wM) (fun r w1 h => by obtain ⟨k, -, h0, h1⟩ := h; exact (Nat.eq_zero_or_pos k).elim (fun hk => (h0 hk).2.ad2 hwM) (fun hk => (h1 (by omega)).ad2 hwM)) (fun _ => List.Perm.refl _) (fun r8 wM9 H locs hpo hP hD hS => ?_)
  obtain ⟨k8, hk8, hm0, hm1⟩ := hpo
  have hk7 : cdR ((0 ≤ (xs ((1 + 6 * j) + 2)).toInt ∧ (xs ((1 + 6 * j) + 2)).toInt < (cq (sL x) (xs ((1 + 6 * j) + 1)).toInt : Int)) ∧ ((xs ((1 + 6 * j) + 3)).toInt = 0 ∨ (xs ((1 + 6 * j) + 3)).toInt = 1)) True True k8 := cdR_iff (by show ((_ ∧ _ < (cq M _ : Int)) ∧ _) ↔ _; rw [← hLR.cqe]) Iff.rfl Iff.rfl hk8
  have hkk : k9 = k8 := cdR_fun hk9 hk7
  subst hkk
  have hlt := cdR_lt hk9
  replace hP := lz_permP (lw_pM (eJ cJ aJ g) (eD cD aD fD) wC9 wM9).symm hP
  replace hD := lz_permD (lw_pM (eJ cJ aJ g) (eD cD aD fD) wC9 wM9).symm hD
  refine lv_istore (lv' := [(7, .int r8), (6, .int (nI k9)), (5, .int (nI (1 + 6 * j))), (0, .ref b), (1, .ref (o 0)), (2, .ref (u 0)), (3, .ref aJ), (4, .ref aD)]) hx hb dL_law_1088 hl (by decide) rfl (fun ls hl => ?_)
  rcases Nat.eq_zero_or_pos k9 with hkz | hkz
  · subst hkz
    obtain ⟨hg, hwC2⟩ := hk0 rfl
    obtain ⟨hr8, hwM2⟩ := hm0 rfl
    have hpp := cdR_0 hk9 rfl
    have hl : lv_has ls 10 [(7, .int r8), (6, .int (nI 0)), (5, .int (nI (1 + 6 * j))), (0, .ref b), (1, .ref (o 0)), (2, .ref (u 0)), (3, .ref aJ), (4, .ref aD)] := hl
    refine lv_aload_n hx hb dL_law_1090 rfl (lv_at hl 5 rfl) ?_
    have hPm : va_P D vwCl wM9 H := lz_cutP (lw_pM (eJ cJ aJ g) (eD cD aD fD) wC9 wM9) hP
    have hDm : va_D (lwA s) wM9 := lz_cutD (lw_pM (eJ cJ aJ g) (eD cD aD fD) wC9 wM9) hD
    obtain ⟨r1, r2, r3, f1, f2, f3, f4, k1, kc, -, -, -, hwe2⟩ := id hwM2
    have hPr := id hPm
    rw [hwe2] at hPr
    refine vp_callSi (lz_runV (C := RX4) (As := []) (rest := []) hC hS hl (c_X4_thrown hwM2) (cwV 0 hts gL_law_X4_thrown rfl rfl rfl (by decide +kernel) ⟨Nat.le_of_ble_eq_true rfl, Nat.le_of_ble_eq_true rfl⟩) hPm hDm (va_recv hK hPr (ci := 4) (q0 := 0) rfl rfl) rfl rfl (Nat.le_of_ble_eq_true rfl) dL_law_1091 ⟨by show _ ≤ 601024; omega, by show _ ≤ 7293000; omega⟩).run (fun r7 hr7 => ?_)
    subst hr7
    refine lv_iload hx hb dL_law_1094 (lv_at hl 1 rfl) ?_
    refine lv_icmp_eq (tgt := 1101) hx hb dL_law_1096 (by decide) (fun c_1 => ?_) (fun c_1 => absurd rfl c_1)
    refine lv_iload hx hb dL_law_1101 (lv_at hl 1 rfl) ?_
    refine lv_if_ne (tgt := 1118) hx hb dL_law_1103 (by decide) (fun c_2 => absurd nI_0 c_2) (fun c_2 => ?_)
    refine lv_aload_n hx hb dL_law_1106 rfl (lv_at hl 6 rfl) ?_
    refine lv_iconst (v := nI 0) hx hb dL_law_1107 (by decide) ?_
    refine lz_lald hx hb hKJ hP dL_law_1108 ?_
    refine lv_iload hx hb dL_law_1109 (lv_at hl 0 rfl) ?_
    refine lv_i2l (v := r8.toInt64) hx hb dL_law_1111 rfl ?_
    refine W.lcmp hx hb dL_law_1112 ?_
    have hve : r8 = (if (xs ((1 + 6 * j) + 3)).toInt = 0 then nI (rget (sL x) (xs ((1 + 6 * j) + 1)).toInt (tn (xs ((1 + 6 * j) + 2)))).2.1 else nI (rget (sL x) (xs ((1 + 6 * j) + 1)).toInt (tn (xs ((1 + 6 * j) + 2)))).2.2.1) := hr8.trans (by show (if _ then nI (rget M _ _).2.1 else nI (rget M _ _).2.2.1) = _; rw [← hLR.rg])
    refine lv_if_eq (tgt := 1118) hx hb dL_law_1113 (by decide) (fun c_3 => ?_) (fun c_3 => absurd (by rw [hg, hve]; exact lg_self _) c_3)
    refine lv_goto (tgt := 1310) hx hb dL_law_1118 (by decide) ?_
    exact hN ev R x _ _ wC9 wM9 g fD ⟨hwC2, hwM2, hR, hOk, hs, by omega⟩ H locs ls hP hD hS (lv_sub hl [2, 3, 4, 5, 6, 7] rfl)
  · have hwC2 := hk1 (by omega)
    have hwM2 := hm1 (by omega)
    have hl : lv_has ls 10 [(7, .int r8), (6, .int (nI k9)), (5, .int (nI (1 + 6 * j))), (0, .ref b), (1, .ref (o 0)), (2, .ref (u 0)), (3, .ref aJ), (4, .ref aD)] := hl
    refine lv_aload_n hx hb dL_law_1090 rfl (lv_at hl 5 rfl) ?_
    have hPm : va_P D vwCl wM9 H := lz_cutP (lw_pM (eJ cJ aJ g) (eD cD aD fD) wC9 wM9) hP
    have hDm : va_D (lwA s) wM9 := lz_cutD (lw_pM (eJ cJ aJ g) (eD cD aD fD) wC9 wM9) hD
    obtain ⟨r1, r2, r3, f1, f2, f3, f4, k1, kc, -, -, -, hwe2⟩ := id hwM2
    have hPr := id hPm
    rw [hwe2] at hPr
    refine vp_callSi (lz_runV (C := RX4) (As := []) (rest := []) hC hS hl (c_X4_thrown hwM2) (cwV 0 hts gL_law_X4_thrown rfl rfl rfl (by decide +kernel) ⟨Nat.le_of_ble_eq_true rfl, Nat.le_of_ble_eq_true rfl⟩) hPm hDm (va_recv hK hPr (ci := 4) (q0 := 0) rfl rfl) rfl rfl (Nat.le_of_ble_eq_true rfl) dL_law_1091 ⟨by show _ ≤ 601024; omega, by show _ ≤ 7293000; omega⟩).run (fun r7 hr7 => ?_)
    subst hr7
    refine lv_iload hx hb dL_law_1094 (lv_at hl 1 rfl) ?_
    refine lv_icmp_eq (tgt := 1101) hx hb dL_law_1096 (by decide) (fun c_4 => ?_) (fun c_4 => absurd rfl c_4)
    refine lv_iload hx hb dL_law_1101 (lv_at hl 1 rfl) ?_
    refine lv_if_ne (tgt := 1118) hx hb dL_law_1103 (by decide) (fun c_5 => ?_) (fun c_5 => absurd c_5 (fun q9 => absurd ((iz_ne0 (by omega)).mp q9) (by omega)))
    refine lv_goto (tgt := 1310) hx hb dL_law_1118 (by decide) ?_
    exact hN ev R x (stL x M) _ wC9 wM9 g fD ⟨hwC2, hwM2, hR, hOk, hs, by omega⟩ H locs ls hP hD hS (lv_sub hl [2, 3, 4, 5, 6, 7] rfl)

set_option maxRecDepth 100000 in
set_option maxHeartbeats 4000000 in
/-- case 14: recorded -/
theorem law_14 {p : Program} {l : Launch} {e : Env} {m : MethodId} {c : Code} {s : State} {below : List Frame} {meth : Method} {b L : Nat} {xs : Nat → Int32} {D : va_G} {cI cF cQ cJ cD : ClassId} {aT : Nat} {o u : Nat → Nat} {aJ aD n j ev : Nat} {R : List dI} {x y : St} {th : Int32} {wC wM : va_W} {fJ : Nat → Int64} {fD : Nat → UInt64} {H : Heap} {locs : List Loc} {ls : Array Slot} (h0 : lwC p l m c s b L xs D cI cF cQ cJ cD aT) (hj : j ≤ 511) (hi : 1 + 6 * j + 6 ≤ L) (hN : lwN p l e m c s below meth b D cI cF cQ cJ cD o u aJ aD n j) (hI : LI cI cF cQ o u n j ev R x y th wC wM) (hP : va_P D vwCl (eJ cJ aJ fJ :: eD cD aD fD :: (wC ++ wM)) H) (hD : va_D (lwA s) (eJ cJ aJ fJ :: eD cD aD fD :: (wC ++ wM))) (hS : va_S (lwA s) s.heap H locs) (hl : lv_has ls 10 (lwL b (o 0) (u 0) aJ aD (1 + 6 * j))) : W p l e room_1 s m #[Value.ref b] below meth c H locs (46 + 8 * j) (13635 + 48 * j) (lw_Z below #[Value.ref b] s) (F0 m 1121 ls []) := by
  obtain ⟨hC, hKJ, hX, hbl, hL⟩ := id h0
  have hx := hC.1.1
  have hb := hC.1.2.1
  have hml := hC.1.2.2.1
  have hown : s.vm.findClass RL = some m.cls := hC.1.2.2.2.1
  have hts := hC.1.2.2.2.2
  have hA := hC.2.1
  have hK := hC.2.2.2.1
  have hbA : ¬ lwA s b := Nat.not_le.mpr hbl
  obtain ⟨hwC, hwM, hR, hOk, hs, hT⟩ := id hI
  obtain ⟨M, rfl, hLR⟩ := rel_eq hR
  have hOkY := hR.ok hOk
  have hn9 := hOk.1.2
  have hL9 : rIn n (sL x) := hOk.2.2.2.2.2.1
  have hT9 : sT x ≤ 64 * 511 := by omega
  have hl : lv_has ls 10 [(5, .int (nI (1 + 6 * j))), (0, .ref b), (1, .ref (o 0)), (2, .ref (u 0)), (3, .ref aJ), (4, .ref aD)] := hl
  refine lv_aload_n hx hb dL_law_1121 rfl (lv_at hl 2 rfl) ?_
  refine lv_aload_n hx hb dL_law_1122 rfl (lv_at hl 1 rfl) ?_
  refine lv_iload hx hb dL_law_1123 (lv_at hl 0 rfl) ?_
  refine lv_iconst (v := nI 1) hx hb dL_law_1125 (by decide) ?_
  refine lv_iadd hx hb dL_law_1126 ?_
  refine lz_i (nI_add _ _) ?_
  refine lz_sld hx hb hX hbl hbA hS (k := ((1 + 6 * j) + 1)) (by omega) (by omega) dL_law_1127 ?_
  refine lv_aload_n hx hb dL_law_1128 rfl (lv_at hl 1 rfl) ?_
  refine lv_iload hx hb dL_law_1129 (lv_at hl 0 rfl) ?_
  refine lv_iconst (v := nI 2) hx hb dL_law_1131 (by decide) ?_
  refine lv_iadd hx hb dL_law_1132 ?_
  refine lz_i (nI_add _ _) ?_
  refine lz_sld hx hb hX hbl hbA hS (k := ((1 + 6 * j) + 2)) (by omega) (by omega) dL_law_1133 ?_
  refine lv_aload hx hb dL_law_1134 (lv_at hl 5 rfl) ?_
  have hPc : va_P D vwCl ((eD cD aD fD) :: wC) H := lz_cutP (lw_pD (eJ cJ aJ fJ) (eD cD aD fD) wC wM) hP
  have hDc : va_D (lwA s) ((eD cD aD fD) :: wC) := lz_cutD (lw_pD (eJ cJ aJ fJ) (eD cD aD fD) wC wM) hD
  refine lz_cMi (w2 := fun w1 => w1 ++ ((eJ cJ aJ fJ) :: wM)) (lz_runSH (As := [.ref (o 0), .int (xs ((1 + 6 * j) + 1)), .int (xs ((1 + 6 * j) + 2)), .ref aD]) (rest := []) hC hKJ hS hl (c_L_recorded hwC hOk hs) (vx_cwSW 4 hts gL_law_L_recorded rfl rfl rfl (by decide +kernel) ⟨Nat.le_of_ble_eq_true rfl, Nat.le_of_ble_eq_true rfl⟩) hPc hDc rfl rfl (Nat.le_of_ble_eq_true rfl) dL_law_1136 ⟨by show _ ≤ 601024; omega, by show _ ≤ 7293000; omega⟩) hP hD hS hA (lw_pD (eJ cJ aJ fJ) (eD cD aD fD) wC wM) (fun r w1 h => by obtain ⟨k, wC9, g, -, -, rfl, h0, h1⟩ := h; exact congrArg (List.cons aD) ((Nat.eq_zero_or_pos k).elim (fun hk => (h0 hk).2.ad2 hwC) (fun hk => (h1 (by omega)).ad2 hwC))) (fun _ => List.Perm.refl _) (fun r9 w1 H locs hpo hP hD hS => ?_)
  obtain ⟨k9, wC9, g, rfl, hk9, rfl, hk0, hk1⟩ := hpo
  replace hP := lz_permP (lw_pD (eJ cJ aJ fJ) (eD cD aD g) wC9 wM).symm hP
  replace hD := lz_permD (lw_pD (eJ cJ aJ fJ) (eD cD aD g) wC9 wM).symm hD
  refine lv_istore (lv' := [(6, .int (nI k9)), (5, .int (nI (1 + 6 * j))), (0, .ref b), (1, .ref (o 0)), (2, .ref (u 0)), (3, .ref aJ), (4, .ref aD)]) hx hb dL_law_1139 hl (by decide) rfl (fun ls hl => ?_)
  refine lv_aload_n hx hb dL_law_1141 rfl (lv_at hl 4 rfl) ?_
  refine lv_aload_n hx hb dL_law_1142 rfl (lv_at hl 2 rfl) ?_
  refine lv_iload hx hb dL_law_1143 (lv_at hl 1 rfl) ?_
  refine lv_iconst (v := nI 1) hx hb dL_law_1145 (by decide) ?_
  refine lv_iadd hx hb dL_law_1146 ?_
  refine lz_i (nI_add _ _) ?_
  refine lz_sld hx hb hX hbl hbA hS (k := ((1 + 6 * j) + 1)) (by omega) (by omega) dL_law_1147 ?_
  refine lv_aload_n hx hb dL_law_1148 rfl (lv_at hl 2 rfl) ?_
  refine lv_iload hx hb dL_law_1149 (lv_at hl 1 rfl) ?_
  refine lv_iconst (v := nI 2) hx hb dL_law_1151 (by decide) ?_
  refine lv_iadd hx hb dL_law_1152 ?_
  refine lz_i (nI_add _ _) ?_
  refine lz_sld hx hb hX hbl hbA hS (k := ((1 + 6 * j) + 2)) (by omega) (by omega) dL_law_1153 ?_
  have hPm : va_P D vwCl wM H := lz_cutP (lw_pM (eJ cJ aJ fJ) (eD cD aD g) wC9 wM) hP
  have hDm : va_D (lwA s) wM := lz_cutD (lw_pM (eJ cJ aJ fJ) (eD cD aD g) wC9 wM) hD
  obtain ⟨r1, r2, r3, f1, f2, f3, f4, k1, kc, -, -, -, hwe⟩ := id hwM
  have hPr := id hPm
  rw [hwe] at hPr
  refine lz_cMf (w2 := fun w1 => w1 ++ (eJ cJ aJ fJ :: eD cD aD g :: wC9)) (lz_runV (C := RX4) (As := [.int (xs ((1 + 6 * j) + 1)), .int (xs ((1 + 6 * j) + 2))]) (rest := []) hC hS hl (c_X4_recorded hwM hOkY) (cwV 2 hts gL_law_X4_recorded rfl rfl rfl (by decide +kernel) ⟨Nat.le_of_ble_eq_true rfl, Nat.le_of_ble_eq_true rfl⟩) hPm hDm (va_recv hK hPr (ci := 4) (q0 := 0) rfl rfl) rfl rfl (Nat.le_of_ble_eq_true rfl) dL_law_1154 ⟨by show _ ≤ 601024; omega, by show _ ≤ 7293000; omega⟩) hP hD hS hA (lw_pM (eJ cJ aJ fJ) (eD cD aD g) wC9 wM) (fun r w1 h => by obtain ⟨k, -, h0, h1⟩ := h; exact (Nat.eq_zero_or_pos k).elim (fun hk => (h0 hk).2.ad2 hwM) (fun hk => (h1 (by omega)).ad2 hwM)) (fun _ => List.Perm.refl _) (fun r8 wM9 H locs hpo hP hD hS => ?_)
  obtain ⟨k8, hk8, hm0, hm1⟩ := hpo
  have hk7 : cdR (0 ≤ (xs ((1 + 6 * j) + 2)).toInt ∧ (xs ((1 + 6 * j) + 2)).toInt < (cq (sL x) (xs ((1 + 6 * j) + 1)).toInt : Int)) True True k8 := cdR_iff (by show (_ ∧ _ < (cq M _ : Int)) ↔ _; rw [← hLR.cqe]) Iff.rfl Iff.rfl hk8
  have hkk : k9 = k8 := cdR_fun hk9 hk7
  subst hkk
  have hlt := cdR_lt hk9
  replace hP := lz_permP (lw_pM (eJ cJ aJ fJ) (eD cD aD g) wC9 wM9).symm hP
  replace hD := lz_permD (lw_pM (eJ cJ aJ fJ) (eD cD aD g) wC9 wM9).symm hD
  refine lv_fstore (lv' := [(7, .float r8), (6, .int (nI k9)), (5, .int (nI (1 + 6 * j))), (0, .ref b), (1, .ref (o 0)), (2, .ref (u 0)), (3, .ref aJ), (4, .ref aD)]) hx hb dL_law_1157 hl (by decide) rfl (fun ls hl => ?_)
  rcases Nat.eq_zero_or_pos k9 with hkz | hkz
  · subst hkz
    obtain ⟨hg, hwC2⟩ := hk0 rfl
    obtain ⟨hr8, hwM2⟩ := hm0 rfl
    have hpp := cdR_0 hk9 rfl
    have hl : lv_has ls 10 [(7, .float r8), (6, .int (nI 0)), (5, .int (nI (1 + 6 * j))), (0, .ref b), (1, .ref (o 0)), (2, .ref (u 0)), (3, .ref aJ), (4, .ref aD)] := hl
    refine lv_aload_n hx hb dL_law_1159 rfl (lv_at hl 5 rfl) ?_
    have hPm : va_P D vwCl wM9 H := lz_cutP (lw_pM (eJ cJ aJ fJ) (eD cD aD g) wC9 wM9) hP
    have hDm : va_D (lwA s) wM9 := lz_cutD (lw_pM (eJ cJ aJ fJ) (eD cD aD g) wC9 wM9) hD
    obtain ⟨r1, r2, r3, f1, f2, f3, f4, k1, kc, -, -, -, hwe2⟩ := id hwM2
    have hPr := id hPm
    rw [hwe2] at hPr
    refine vp_callSi (lz_runV (C := RX4) (As := []) (rest := []) hC hS hl (c_X4_thrown hwM2) (cwV 0 hts gL_law_X4_thrown rfl rfl rfl (by decide +kernel) ⟨Nat.le_of_ble_eq_true rfl, Nat.le_of_ble_eq_true rfl⟩) hPm hDm (va_recv hK hPr (ci := 4) (q0 := 0) rfl rfl) rfl rfl (Nat.le_of_ble_eq_true rfl) dL_law_1160 ⟨by show _ ≤ 601024; omega, by show _ ≤ 7293000; omega⟩).run (fun r7 hr7 => ?_)
    subst hr7
    refine lv_iload hx hb dL_law_1163 (lv_at hl 1 rfl) ?_
    refine lv_icmp_eq (tgt := 1170) hx hb dL_law_1165 (by decide) (fun c_1 => ?_) (fun c_1 => absurd rfl c_1)
    refine lv_iload hx hb dL_law_1170 (lv_at hl 1 rfl) ?_
    refine lv_if_ne (tgt := 1208) hx hb dL_law_1172 (by decide) (fun c_2 => absurd nI_0 c_2) (fun c_2 => ?_)
    refine lv_aload hx hb dL_law_1175 (lv_at hl 7 rfl) ?_
    refine lv_iconst (v := nI 0) hx hb dL_law_1177 (by decide) ?_
    refine lz_dald hx hb hKJ hP dL_law_1178 ?_
    have hve : r8 = (rget (sL x) (xs ((1 + 6 * j) + 1)).toInt (tn (xs ((1 + 6 * j) + 2)))).2.2.2 := hr8.trans (by show (rget M _ _).2.2.2 = _; rw [← hLR.rg])
    have hfin : fF ((rget (sL x) (xs ((1 + 6 * j) + 1)).toInt (tn (xs ((1 + 6 * j) + 2)))).2.2.2) := rget_fin hL9 _ _
    refine lv_fload hx hb dL_law_1179 (lv_at hl 0 rfl) ?_
    refine lv_f2d hx hb dL_law_1181 (fl_f2d (by rw [hve]; exact hfin)) ?_
    refine lv_dcmp hx hb dL_law_1182 ?_
    refine lv_if_eq (tgt := 1208) hx hb dL_law_1183 (by decide) (fun c_3 => ?_) (fun c_3 => absurd (by rw [hg, hve, fl_dself (fl_F hfin)]; decide) c_3)
    refine lv_goto (tgt := 1310) hx hb dL_law_1208 (by decide) ?_
    exact hN ev R x _ _ wC9 wM9 fJ g ⟨hwC2, hwM2, hR, hOk, hs, by omega⟩ H locs ls hP hD hS (lv_sub hl [2, 3, 4, 5, 6, 7] rfl)
  · have hwC2 := hk1 (by omega)
    have hwM2 := hm1 (by omega)
    have hl : lv_has ls 10 [(7, .float r8), (6, .int (nI k9)), (5, .int (nI (1 + 6 * j))), (0, .ref b), (1, .ref (o 0)), (2, .ref (u 0)), (3, .ref aJ), (4, .ref aD)] := hl
    refine lv_aload_n hx hb dL_law_1159 rfl (lv_at hl 5 rfl) ?_
    have hPm : va_P D vwCl wM9 H := lz_cutP (lw_pM (eJ cJ aJ fJ) (eD cD aD g) wC9 wM9) hP
    have hDm : va_D (lwA s) wM9 := lz_cutD (lw_pM (eJ cJ aJ fJ) (eD cD aD g) wC9 wM9) hD
    obtain ⟨r1, r2, r3, f1, f2, f3, f4, k1, kc, -, -, -, hwe2⟩ := id hwM2
    have hPr := id hPm
    rw [hwe2] at hPr
    refine vp_callSi (lz_runV (C := RX4) (As := []) (rest := []) hC hS hl (c_X4_thrown hwM2) (cwV 0 hts gL_law_X4_thrown rfl rfl rfl (by decide +kernel) ⟨Nat.le_of_ble_eq_true rfl, Nat.le_of_ble_eq_true rfl⟩) hPm hDm (va_recv hK hPr (ci := 4) (q0 := 0) rfl rfl) rfl rfl (Nat.le_of_ble_eq_true rfl) dL_law_1160 ⟨by show _ ≤ 601024; omega, by show _ ≤ 7293000; omega⟩).run (fun r7 hr7 => ?_)
    subst hr7
    refine lv_iload hx hb dL_law_1163 (lv_at hl 1 rfl) ?_
    refine lv_icmp_eq (tgt := 1170) hx hb dL_law_1165 (by decide) (fun c_4 => ?_) (fun c_4 => absurd rfl c_4)
    refine lv_iload hx hb dL_law_1170 (lv_at hl 1 rfl) ?_
    refine lv_if_ne (tgt := 1208) hx hb dL_law_1172 (by decide) (fun c_5 => ?_) (fun c_5 => absurd c_5 (fun q9 => absurd ((iz_ne0 (by omega)).mp q9) (by omega)))
    refine lv_goto (tgt := 1310) hx hb dL_law_1208 (by decide) ?_
    exact hN ev R x (stL x M) _ wC9 wM9 fJ g ⟨hwC2, hwM2, hR, hOk, hs, by omega⟩ H locs ls hP hD hS (lv_sub hl [2, 3, 4, 5, 6, 7] rfl)

set_option maxRecDepth 100000 in
set_option maxHeartbeats 4000000 in
/-- case 15: count -/
theorem law_15 {p : Program} {l : Launch} {e : Env} {m : MethodId} {c : Code} {s : State} {below : List Frame} {meth : Method} {b L : Nat} {xs : Nat → Int32} {D : va_G} {cI cF cQ cJ cD : ClassId} {aT : Nat} {o u : Nat → Nat} {aJ aD n j ev : Nat} {R : List dI} {x y : St} {th : Int32} {wC wM : va_W} {fJ : Nat → Int64} {fD : Nat → UInt64} {H : Heap} {locs : List Loc} {ls : Array Slot} (h0 : lwC p l m c s b L xs D cI cF cQ cJ cD aT) (hj : j ≤ 511) (hi : 1 + 6 * j + 6 ≤ L) (hN : lwN p l e m c s below meth b D cI cF cQ cJ cD o u aJ aD n j) (hI : LI cI cF cQ o u n j ev R x y th wC wM) (hP : va_P D vwCl (eJ cJ aJ fJ :: eD cD aD fD :: (wC ++ wM)) H) (hD : va_D (lwA s) (eJ cJ aJ fJ :: eD cD aD fD :: (wC ++ wM))) (hS : va_S (lwA s) s.heap H locs) (hl : lv_has ls 10 (lwL b (o 0) (u 0) aJ aD (1 + 6 * j))) : W p l e room_1 s m #[Value.ref b] below meth c H locs (46 + 8 * j) (13635 + 48 * j) (lw_Z below #[Value.ref b] s) (F0 m 1211 ls []) := by
  obtain ⟨hC, hKJ, hX, hbl, hL⟩ := id h0
  have hx := hC.1.1
  have hb := hC.1.2.1
  have hml := hC.1.2.2.1
  have hown : s.vm.findClass RL = some m.cls := hC.1.2.2.2.1
  have hts := hC.1.2.2.2.2
  have hA := hC.2.1
  have hK := hC.2.2.2.1
  have hbA : ¬ lwA s b := Nat.not_le.mpr hbl
  obtain ⟨hwC, hwM, hR, hOk, hs, hT⟩ := id hI
  obtain ⟨M, rfl, hLR⟩ := rel_eq hR
  have hOkY := hR.ok hOk
  have hn9 := hOk.1.2
  have hL9 : rIn n (sL x) := hOk.2.2.2.2.2.1
  have hT9 : sT x ≤ 64 * 511 := by omega
  have hl : lv_has ls 10 [(5, .int (nI (1 + 6 * j))), (0, .ref b), (1, .ref (o 0)), (2, .ref (u 0)), (3, .ref aJ), (4, .ref aD)] := hl
  refine lv_aload_n hx hb dL_law_1211 rfl (lv_at hl 2 rfl) ?_
  refine lv_aload_n hx hb dL_law_1212 rfl (lv_at hl 1 rfl) ?_
  refine lv_iload hx hb dL_law_1213 (lv_at hl 0 rfl) ?_
  refine lv_iconst (v := nI 1) hx hb dL_law_1215 (by decide) ?_
  refine lv_iadd hx hb dL_law_1216 ?_
  refine lz_i (nI_add _ _) ?_
  refine lz_sld hx hb hX hbl hbA hS (k := ((1 + 6 * j) + 1)) (by omega) (by omega) dL_law_1217 ?_
  refine lv_aload_n hx hb dL_law_1218 rfl (lv_at hl 4 rfl) ?_
  have hPc : va_P D vwCl ((eJ cJ aJ fJ) :: wC) H := lz_cutP (lw_pJ (eJ cJ aJ fJ) (eD cD aD fD) wC wM) hP
  have hDc : va_D (lwA s) ((eJ cJ aJ fJ) :: wC) := lz_cutD (lw_pJ (eJ cJ aJ fJ) (eD cD aD fD) wC wM) hD
  refine lz_cMi (w2 := fun w1 => w1 ++ ((eD cD aD fD) :: wM)) (lz_runSH (As := [.ref (o 0), .int (xs ((1 + 6 * j) + 1)), .ref aJ]) (rest := []) hC hKJ hS hl (c_L_count hwC hOk hs) (vx_cwSW 3 hts gL_law_L_count rfl rfl rfl (by decide +kernel) ⟨Nat.le_of_ble_eq_true rfl, Nat.le_of_ble_eq_true rfl⟩) hPc hDc rfl rfl (Nat.le_of_ble_eq_true rfl) dL_law_1219 ⟨by show _ ≤ 601024; omega, by show _ ≤ 7293000; omega⟩) hP hD hS hA (lw_pJ (eJ cJ aJ fJ) (eD cD aD fD) wC wM) (fun r w1 h => by obtain ⟨k, wC9, g, -, -, rfl, h0, h1⟩ := h; exact congrArg (List.cons aJ) ((Nat.eq_zero_or_pos k).elim (fun hk => (h0 hk).2.ad2 hwC) (fun hk => (h1 (by omega)).ad2 hwC))) (fun _ => List.Perm.refl _) (fun r9 w1 H locs hpo hP hD hS => ?_)
  obtain ⟨k9, wC9, g, rfl, hk9, rfl, hk0, hk1⟩ := hpo
  replace hP := lz_permP (lw_pJ (eJ cJ aJ g) (eD cD aD fD) wC9 wM).symm hP
  replace hD := lz_permD (lw_pJ (eJ cJ aJ g) (eD cD aD fD) wC9 wM).symm hD
  refine lv_istore (lv' := [(6, .int (nI k9)), (5, .int (nI (1 + 6 * j))), (0, .ref b), (1, .ref (o 0)), (2, .ref (u 0)), (3, .ref aJ), (4, .ref aD)]) hx hb dL_law_1222 hl (by decide) rfl (fun ls hl => ?_)
  refine lv_aload_n hx hb dL_law_1224 rfl (lv_at hl 4 rfl) ?_
  refine lv_aload_n hx hb dL_law_1225 rfl (lv_at hl 2 rfl) ?_
  refine lv_iload hx hb dL_law_1226 (lv_at hl 1 rfl) ?_
  refine lv_iconst (v := nI 1) hx hb dL_law_1228 (by decide) ?_
  refine lv_iadd hx hb dL_law_1229 ?_
  refine lz_i (nI_add _ _) ?_
  refine lz_sld hx hb hX hbl hbA hS (k := ((1 + 6 * j) + 1)) (by omega) (by omega) dL_law_1230 ?_
  have hPm : va_P D vwCl wM H := lz_cutP (lw_pM (eJ cJ aJ g) (eD cD aD fD) wC9 wM) hP
  have hDm : va_D (lwA s) wM := lz_cutD (lw_pM (eJ cJ aJ g) (eD cD aD fD) wC9 wM) hD
  obtain ⟨r1, r2, r3, f1, f2, f3, f4, k1, kc, -, -, -, hwe⟩ := id hwM
  have hPr := id hPm
  rw [hwe] at hPr
  refine lz_cMi (w2 := fun w1 => w1 ++ (eJ cJ aJ g :: eD cD aD fD :: wC9)) (lz_runV (C := RX4) (As := [.int (xs ((1 + 6 * j) + 1))]) (rest := []) hC hS hl (c_X4_count hwM hOkY) (cwV 1 hts gL_law_X4_count rfl rfl rfl (by decide +kernel) ⟨Nat.le_of_ble_eq_true rfl, Nat.le_of_ble_eq_true rfl⟩) hPm hDm (va_recv hK hPr (ci := 4) (q0 := 0) rfl rfl) rfl rfl (Nat.le_of_ble_eq_true rfl) dL_law_1231 ⟨by show _ ≤ 601024; omega, by show _ ≤ 7293000; omega⟩) hP hD hS hA (lw_pM (eJ cJ aJ g) (eD cD aD fD) wC9 wM) (fun r w1 h => by obtain ⟨k, -, h0, h1⟩ := h; exact (Nat.eq_zero_or_pos k).elim (fun hk => (h0 hk).2.ad2 hwM) (fun hk => (h1 (by omega)).ad2 hwM)) (fun _ => List.Perm.refl _) (fun r8 wM9 H locs hpo hP hD hS => ?_)
  obtain ⟨k8, hk8, hm0, hm1⟩ := hpo
  have hk7 : cdR (0 ≤ (xs ((1 + 6 * j) + 1)).toInt ∧ (xs ((1 + 6 * j) + 1)).toInt ≤ 7) True True k8 := cdR_iff Iff.rfl Iff.rfl Iff.rfl hk8
  have hkk : k9 = k8 := cdR_fun hk9 hk7
  subst hkk
  have hlt := cdR_lt hk9
  replace hP := lz_permP (lw_pM (eJ cJ aJ g) (eD cD aD fD) wC9 wM9).symm hP
  replace hD := lz_permD (lw_pM (eJ cJ aJ g) (eD cD aD fD) wC9 wM9).symm hD
  refine lv_istore (lv' := [(7, .int r8), (6, .int (nI k9)), (5, .int (nI (1 + 6 * j))), (0, .ref b), (1, .ref (o 0)), (2, .ref (u 0)), (3, .ref aJ), (4, .ref aD)]) hx hb dL_law_1234 hl (by decide) rfl (fun ls hl => ?_)
  rcases Nat.eq_zero_or_pos k9 with hkz | hkz
  · subst hkz
    obtain ⟨hg, hwC2⟩ := hk0 rfl
    obtain ⟨hr8, hwM2⟩ := hm0 rfl
    have hpp := cdR_0 hk9 rfl
    have hl : lv_has ls 10 [(7, .int r8), (6, .int (nI 0)), (5, .int (nI (1 + 6 * j))), (0, .ref b), (1, .ref (o 0)), (2, .ref (u 0)), (3, .ref aJ), (4, .ref aD)] := hl
    refine lv_aload_n hx hb dL_law_1236 rfl (lv_at hl 5 rfl) ?_
    have hPm : va_P D vwCl wM9 H := lz_cutP (lw_pM (eJ cJ aJ g) (eD cD aD fD) wC9 wM9) hP
    have hDm : va_D (lwA s) wM9 := lz_cutD (lw_pM (eJ cJ aJ g) (eD cD aD fD) wC9 wM9) hD
    obtain ⟨r1, r2, r3, f1, f2, f3, f4, k1, kc, -, -, -, hwe2⟩ := id hwM2
    have hPr := id hPm
    rw [hwe2] at hPr
    refine vp_callSi (lz_runV (C := RX4) (As := []) (rest := []) hC hS hl (c_X4_thrown hwM2) (cwV 0 hts gL_law_X4_thrown rfl rfl rfl (by decide +kernel) ⟨Nat.le_of_ble_eq_true rfl, Nat.le_of_ble_eq_true rfl⟩) hPm hDm (va_recv hK hPr (ci := 4) (q0 := 0) rfl rfl) rfl rfl (Nat.le_of_ble_eq_true rfl) dL_law_1237 ⟨by show _ ≤ 601024; omega, by show _ ≤ 7293000; omega⟩).run (fun r7 hr7 => ?_)
    subst hr7
    refine lv_iload hx hb dL_law_1240 (lv_at hl 1 rfl) ?_
    refine lv_icmp_eq (tgt := 1247) hx hb dL_law_1242 (by decide) (fun c_1 => ?_) (fun c_1 => absurd rfl c_1)
    refine lv_iload hx hb dL_law_1247 (lv_at hl 1 rfl) ?_
    refine lv_if_ne (tgt := 1264) hx hb dL_law_1249 (by decide) (fun c_2 => absurd nI_0 c_2) (fun c_2 => ?_)
    refine lv_aload_n hx hb dL_law_1252 rfl (lv_at hl 6 rfl) ?_
    refine lv_iconst (v := nI 0) hx hb dL_law_1253 (by decide) ?_
    refine lz_lald hx hb hKJ hP dL_law_1254 ?_
    refine lv_iload hx hb dL_law_1255 (lv_at hl 0 rfl) ?_
    refine lv_i2l (v := r8.toInt64) hx hb dL_law_1257 rfl ?_
    refine W.lcmp hx hb dL_law_1258 ?_
    have hve : r8 = ctv n R x (tn (xs ((1 + 6 * j) + 1))) := hr8.trans (hR.ct n R _).symm
    refine lv_if_eq (tgt := 1264) hx hb dL_law_1259 (by decide) (fun c_3 => ?_) (fun c_3 => absurd (by rw [hg, hve]; exact lg_self _) c_3)
    refine lv_goto (tgt := 1310) hx hb dL_law_1264 (by decide) ?_
    exact hN ev R x _ _ wC9 wM9 g fD ⟨hwC2, hwM2, hR, hOk, hs, by omega⟩ H locs ls hP hD hS (lv_sub hl [2, 3, 4, 5, 6, 7] rfl)
  · have hwC2 := hk1 (by omega)
    have hwM2 := hm1 (by omega)
    have hl : lv_has ls 10 [(7, .int r8), (6, .int (nI k9)), (5, .int (nI (1 + 6 * j))), (0, .ref b), (1, .ref (o 0)), (2, .ref (u 0)), (3, .ref aJ), (4, .ref aD)] := hl
    refine lv_aload_n hx hb dL_law_1236 rfl (lv_at hl 5 rfl) ?_
    have hPm : va_P D vwCl wM9 H := lz_cutP (lw_pM (eJ cJ aJ g) (eD cD aD fD) wC9 wM9) hP
    have hDm : va_D (lwA s) wM9 := lz_cutD (lw_pM (eJ cJ aJ g) (eD cD aD fD) wC9 wM9) hD
    obtain ⟨r1, r2, r3, f1, f2, f3, f4, k1, kc, -, -, -, hwe2⟩ := id hwM2
    have hPr := id hPm
    rw [hwe2] at hPr
    refine vp_callSi (lz_runV (C := RX4) (As := []) (rest := []) hC hS hl (c_X4_thrown hwM2) (cwV 0 hts gL_law_X4_thrown rfl rfl rfl (by decide +kernel) ⟨Nat.le_of_ble_eq_true rfl, Nat.le_of_ble_eq_true rfl⟩) hPm hDm (va_recv hK hPr (ci := 4) (q0 := 0) rfl rfl) rfl rfl (Nat.le_of_ble_eq_true rfl) dL_law_1237 ⟨by show _ ≤ 601024; omega, by show _ ≤ 7293000; omega⟩).run (fun r7 hr7 => ?_)
    subst hr7
    refine lv_iload hx hb dL_law_1240 (lv_at hl 1 rfl) ?_
    refine lv_icmp_eq (tgt := 1247) hx hb dL_law_1242 (by decide) (fun c_4 => ?_) (fun c_4 => absurd rfl c_4)
    refine lv_iload hx hb dL_law_1247 (lv_at hl 1 rfl) ?_
    refine lv_if_ne (tgt := 1264) hx hb dL_law_1249 (by decide) (fun c_5 => ?_) (fun c_5 => absurd c_5 (fun q9 => absurd ((iz_ne0 (by omega)).mp q9) (by omega)))
    refine lv_goto (tgt := 1310) hx hb dL_law_1264 (by decide) ?_
    exact hN ev R x (stL x M) _ wC9 wM9 g fD ⟨hwC2, hwM2, hR, hOk, hs, by omega⟩ H locs ls hP hD hS (lv_sub hl [2, 3, 4, 5, 6, 7] rfl)

