/-! StateKeeper$InputRecord: what writes -/
section X1b
variable {l : Launch} {D : va_G} {cI cF cQ : ClassId} {aT sz : Nat} {o : Nat → Nat} {k : Nat} {f1 f2 f3 : Nat → Int32} {f4 : Nat → UInt32}

set_option maxRecDepth 100000 in
set_option maxHeartbeats 4000000 in
/-- append(step, target, way, number) -/
theorem c_X1_append {t u q : Nat} {v : UInt32} {L : List rI} {n : Nat} (hok : recOk L f1 f2 f3 f4) (hs : srt L) (hL : rIn n L) (ht : t < 2 ^ 30) (hlt : L.length < 512) : Met l yX1_append wsX1_append (rmk 2 0 0) (pcW l D cI cF cQ aT [.ref (o 6), .int (nI t), .int (nI u), .int (nI q), .float v] (recW cI cF o L.length f1 f2 f3 f4) sz) (va_Qv (fun (w1 : va_W) => WR cI cF o (rins L (t, u, q, v)) w1) (fun w1 t => va_P D vwCl w1 t.heap) (va_A (recW cI cF o L.length f1 f2 f3 f4) sz)) 0 0 (va_A (recW cI cF o L.length f1 f2 f3 f4) sz) := by
  refine lz_ofM (Qf := fun A => va_Qv (fun (w1 : va_W) => WR cI cF o (rins L (t, u, q, v)) w1) (fun w1 t => va_P D vwCl w1 t.heap) A) (cc := cX1_append) (maxL := 6) (ret := none) (by decide) rfl (Nat.le_of_ble_eq_true rfl) ?_
  intro p e s m below meth c A hAe hsz hx hb hr hlk hin hC hP hD hS ls hl
  clear hAe
  have hts := hC.1.2.2.2.2
  have hown : s.vm.findClass RX1 = some m.cls := hC.1.2.2.2.1
  have hml := hC.1.2.2.1
  have hA := hC.2.1
  have hK := hC.2.2.2.1
  have hnm := hC.2.2.2.2.1
  have hnf := hC.2.2.2.2.2.1
  have hiX1 : ∀ w ∈ u_ws RX1 TX1 5, w ∈ wsX1_append := fun _ h => List.mem_cons_of_mem _ (List.mem_append_right _ h)
  have hl : lv_has ls 6 [(0, .ref (o 6)), (1, .int (nI t)), (2, .int (nI u)), (3, .int (nI q)), (4, .float v)] := hl
  have hk := hL.1
  have hcb := cb_le L ((t : Int) + 1)
  refine lv_aload_n hx hb dX1_append_0 rfl (lv_at hl 0 rfl) ?_
  refine lv_iload_n hx hb dX1_append_1 rfl (lv_at hl 1 rfl) ?_
  refine lv_i2l (v := (nI t).toInt64) hx hb dX1_append_2 rfl ?_
  refine lv_lconst (v := lN 1) hx hb dX1_append_3 (by decide) ?_
  refine lv_ladd hx hb dX1_append_4 ?_
  refine vp_callSi (lz_runV (C := RX1) (As := [.long (((nI t).toInt64) + (lN 1))]) (rest := []) hC hS hl (c_X1_sizeBelow hok hs hL) (cwV 1 hts gX1_append_X1_sizeBelow rfl rfl rfl (by decide +kernel) ⟨Nat.le_of_ble_eq_true rfl, Nat.le_of_ble_eq_true rfl⟩) hP hD (va_recv hK hP (ci := 1) (q0 := 0) rfl rfl) rfl rfl (Nat.le_of_ble_eq_true rfl) dX1_append_5 ⟨Nat.le_of_ble_eq_true rfl, Nat.le_of_ble_eq_true rfl⟩).run (fun r_1 er_1 => ?_)
  subst er_1
  refine lz_i (y := nI (cb L ((t : Int) + 1))) (by rw [il_1, nI_toInt (by omega)]) ?_
  have hins := recOk_ins hok (t, u, q, v)
  have hlen := rins_len L (t, u, q, v)
  dsimp only at hins
  refine lv_istore (lv' := [(5, .int (nI (cb L ((t : Int) + 1)))), (0, .ref (o 6)), (1, .int (nI t)), (2, .int (nI u)), (3, .int (nI q)), (4, .float v)]) hx hb dX1_append_8 hl (by decide) rfl (fun ls hl => ?_)
  refine lv_aload_n hx hb dX1_append_10 rfl (lv_at hl 1 rfl) ?_
  refine lv_iload hx hb dX1_append_11 (lv_at hl 0 rfl) ?_
  refine lv_iload hx hb dX1_append_13 (lv_at hl 0 rfl) ?_
  refine lv_iconst (v := nI 1) hx hb dX1_append_15 (by decide) ?_
  refine lv_iadd hx hb dX1_append_16 ?_
  refine lz_i (nI_add _ _) ?_
  refine lz_cMv0 (lz_runV (C := RX1) (As := [.int (nI (cb L ((t : Int) + 1))), .int (nI ((cb L ((t : Int) + 1)) + 1))]) (rest := []) hC hS hl (c_X1_moveRest (by omega) (by omega) (by omega)) (cwV 2 hts gX1_append_X1_moveRest rfl rfl rfl (by decide +kernel) ⟨Nat.le_of_ble_eq_true rfl, Nat.le_of_ble_eq_true rfl⟩) hP hD (va_recv hK hP (ci := 1) (q0 := 0) rfl rfl) rfl rfl (Nat.le_of_ble_eq_true rfl) dX1_append_17 ⟨Nat.le_of_ble_eq_true rfl, Nat.le_of_ble_eq_true rfl⟩) hD hS hA (fun w1 h => by rw [h]; rfl) (fun w1 H locs hpo hP hD hS => ?_)
  obtain rfl := hpo
  have hP : va_P D vwCl ([((o 6), .inr (1, [.ref (o 7), .ref (o 8), .ref (o 9), .ref (o 10), .int (nI L.length)])), ((o 7), .inl (cI, 512, .inl (va_cpy f1 f1 (cb L ((t : Int) + 1)) ((cb L ((t : Int) + 1)) + 1) (L.length - (cb L ((t : Int) + 1)))))), ((o 8), .inl (cI, 512, .inl (va_cpy f2 f2 (cb L ((t : Int) + 1)) ((cb L ((t : Int) + 1)) + 1) (L.length - (cb L ((t : Int) + 1)))))), ((o 9), .inl (cI, 512, .inl (va_cpy f3 f3 (cb L ((t : Int) + 1)) ((cb L ((t : Int) + 1)) + 1) (L.length - (cb L ((t : Int) + 1)))))), ((o 10), .inl (cF, 512, .inr (.inr (.inl (va_cpy f4 f4 (cb L ((t : Int) + 1)) ((cb L ((t : Int) + 1)) + 1) (L.length - (cb L ((t : Int) + 1))))))))]) H := hP
  have hD : va_D A ([((o 6), .inr (1, [.ref (o 7), .ref (o 8), .ref (o 9), .ref (o 10), .int (nI L.length)])), ((o 7), .inl (cI, 512, .inl (va_cpy f1 f1 (cb L ((t : Int) + 1)) ((cb L ((t : Int) + 1)) + 1) (L.length - (cb L ((t : Int) + 1)))))), ((o 8), .inl (cI, 512, .inl (va_cpy f2 f2 (cb L ((t : Int) + 1)) ((cb L ((t : Int) + 1)) + 1) (L.length - (cb L ((t : Int) + 1)))))), ((o 9), .inl (cI, 512, .inl (va_cpy f3 f3 (cb L ((t : Int) + 1)) ((cb L ((t : Int) + 1)) + 1) (L.length - (cb L ((t : Int) + 1)))))), ((o 10), .inl (cF, 512, .inr (.inr (.inl (va_cpy f4 f4 (cb L ((t : Int) + 1)) ((cb L ((t : Int) + 1)) + 1) (L.length - (cb L ((t : Int) + 1))))))))]) := hD
  refine lv_aload_n hx hb dX1_append_20 rfl (lv_at hl 1 rfl) ?_
  refine va_get (D := D) (ci := 1) (v := .ref (o 7)) (C := RX1) (T := TX1) (N := 5) hx hb hts hiX1 hown hK hP 0 rfl rfl 0 (by decide) (hts (.fieldLink RX1 9 "StateKeeper$InputRecord" "steps" "[I") (List.mem_of_getElem? (i := 1) rfl)) (fun _ h9 => h9) rfl dX1_append_21 ?_
  refine lv_iload hx hb dX1_append_24 (lv_at hl 0 rfl) ?_
  refine lv_iload_n hx hb dX1_append_26 rfl (lv_at hl 2 rfl) ?_
  refine lz_iast hx hb hK hP hD hS 1 1 rfl rfl (by omega) (by omega) dX1_append_27 (fun H locs hP hD hS => ?_)
  have hP : va_P D vwCl ([((o 6), .inr (1, [.ref (o 7), .ref (o 8), .ref (o 9), .ref (o 10), .int (nI L.length)])), ((o 7), .inl (cI, 512, .inl (upd (va_cpy f1 f1 (cb L ((t : Int) + 1)) ((cb L ((t : Int) + 1)) + 1) (L.length - (cb L ((t : Int) + 1)))) (cb L ((t : Int) + 1)) (nI t)))), ((o 8), .inl (cI, 512, .inl (va_cpy f2 f2 (cb L ((t : Int) + 1)) ((cb L ((t : Int) + 1)) + 1) (L.length - (cb L ((t : Int) + 1)))))), ((o 9), .inl (cI, 512, .inl (va_cpy f3 f3 (cb L ((t : Int) + 1)) ((cb L ((t : Int) + 1)) + 1) (L.length - (cb L ((t : Int) + 1)))))), ((o 10), .inl (cF, 512, .inr (.inr (.inl (va_cpy f4 f4 (cb L ((t : Int) + 1)) ((cb L ((t : Int) + 1)) + 1) (L.length - (cb L ((t : Int) + 1))))))))]) H := hP
  have hD : va_D A ([((o 6), .inr (1, [.ref (o 7), .ref (o 8), .ref (o 9), .ref (o 10), .int (nI L.length)])), ((o 7), .inl (cI, 512, .inl (upd (va_cpy f1 f1 (cb L ((t : Int) + 1)) ((cb L ((t : Int) + 1)) + 1) (L.length - (cb L ((t : Int) + 1)))) (cb L ((t : Int) + 1)) (nI t)))), ((o 8), .inl (cI, 512, .inl (va_cpy f2 f2 (cb L ((t : Int) + 1)) ((cb L ((t : Int) + 1)) + 1) (L.length - (cb L ((t : Int) + 1)))))), ((o 9), .inl (cI, 512, .inl (va_cpy f3 f3 (cb L ((t : Int) + 1)) ((cb L ((t : Int) + 1)) + 1) (L.length - (cb L ((t : Int) + 1)))))), ((o 10), .inl (cF, 512, .inr (.inr (.inl (va_cpy f4 f4 (cb L ((t : Int) + 1)) ((cb L ((t : Int) + 1)) + 1) (L.length - (cb L ((t : Int) + 1))))))))]) := hD
  refine lv_aload_n hx hb dX1_append_28 rfl (lv_at hl 1 rfl) ?_
  refine va_get (D := D) (ci := 1) (v := .ref (o 8)) (C := RX1) (T := TX1) (N := 5) hx hb hts hiX1 hown hK hP 0 rfl rfl 1 (by decide) (hts (.fieldLink RX1 15 "StateKeeper$InputRecord" "targets" "[I") (List.mem_of_getElem? (i := 2) rfl)) (fun _ h9 => h9) rfl dX1_append_29 ?_
  refine lv_iload hx hb dX1_append_32 (lv_at hl 0 rfl) ?_
  refine lv_iload_n hx hb dX1_append_34 rfl (lv_at hl 3 rfl) ?_
  refine lz_iast hx hb hK hP hD hS 2 1 rfl rfl (by omega) (by omega) dX1_append_35 (fun H locs hP hD hS => ?_)
  have hP : va_P D vwCl ([((o 6), .inr (1, [.ref (o 7), .ref (o 8), .ref (o 9), .ref (o 10), .int (nI L.length)])), ((o 7), .inl (cI, 512, .inl (upd (va_cpy f1 f1 (cb L ((t : Int) + 1)) ((cb L ((t : Int) + 1)) + 1) (L.length - (cb L ((t : Int) + 1)))) (cb L ((t : Int) + 1)) (nI t)))), ((o 8), .inl (cI, 512, .inl (upd (va_cpy f2 f2 (cb L ((t : Int) + 1)) ((cb L ((t : Int) + 1)) + 1) (L.length - (cb L ((t : Int) + 1)))) (cb L ((t : Int) + 1)) (nI u)))), ((o 9), .inl (cI, 512, .inl (va_cpy f3 f3 (cb L ((t : Int) + 1)) ((cb L ((t : Int) + 1)) + 1) (L.length - (cb L ((t : Int) + 1)))))), ((o 10), .inl (cF, 512, .inr (.inr (.inl (va_cpy f4 f4 (cb L ((t : Int) + 1)) ((cb L ((t : Int) + 1)) + 1) (L.length - (cb L ((t : Int) + 1))))))))]) H := hP
  have hD : va_D A ([((o 6), .inr (1, [.ref (o 7), .ref (o 8), .ref (o 9), .ref (o 10), .int (nI L.length)])), ((o 7), .inl (cI, 512, .inl (upd (va_cpy f1 f1 (cb L ((t : Int) + 1)) ((cb L ((t : Int) + 1)) + 1) (L.length - (cb L ((t : Int) + 1)))) (cb L ((t : Int) + 1)) (nI t)))), ((o 8), .inl (cI, 512, .inl (upd (va_cpy f2 f2 (cb L ((t : Int) + 1)) ((cb L ((t : Int) + 1)) + 1) (L.length - (cb L ((t : Int) + 1)))) (cb L ((t : Int) + 1)) (nI u)))), ((o 9), .inl (cI, 512, .inl (va_cpy f3 f3 (cb L ((t : Int) + 1)) ((cb L ((t : Int) + 1)) + 1) (L.length - (cb L ((t : Int) + 1)))))), ((o 10), .inl (cF, 512, .inr (.inr (.inl (va_cpy f4 f4 (cb L ((t : Int) + 1)) ((cb L ((t : Int) + 1)) + 1) (L.length - (cb L ((t : Int) + 1))))))))]) := hD
  refine lv_aload_n hx hb dX1_append_36 rfl (lv_at hl 1 rfl) ?_
  refine va_get (D := D) (ci := 1) (v := .ref (o 9)) (C := RX1) (T := TX1) (N := 5) hx hb hts hiX1 hown hK hP 0 rfl rfl 2 (by decide) (hts (.fieldLink RX1 18 "StateKeeper$InputRecord" "ways" "[I") (List.mem_of_getElem? (i := 3) rfl)) (fun _ h9 => h9) rfl dX1_append_37 ?_
  refine lv_iload hx hb dX1_append_40 (lv_at hl 0 rfl) ?_
  refine lv_iload_n hx hb dX1_append_42 rfl (lv_at hl 4 rfl) ?_
  refine lz_iast hx hb hK hP hD hS 3 1 rfl rfl (by omega) (by omega) dX1_append_43 (fun H locs hP hD hS => ?_)
  have hP : va_P D vwCl ([((o 6), .inr (1, [.ref (o 7), .ref (o 8), .ref (o 9), .ref (o 10), .int (nI L.length)])), ((o 7), .inl (cI, 512, .inl (upd (va_cpy f1 f1 (cb L ((t : Int) + 1)) ((cb L ((t : Int) + 1)) + 1) (L.length - (cb L ((t : Int) + 1)))) (cb L ((t : Int) + 1)) (nI t)))), ((o 8), .inl (cI, 512, .inl (upd (va_cpy f2 f2 (cb L ((t : Int) + 1)) ((cb L ((t : Int) + 1)) + 1) (L.length - (cb L ((t : Int) + 1)))) (cb L ((t : Int) + 1)) (nI u)))), ((o 9), .inl (cI, 512, .inl (upd (va_cpy f3 f3 (cb L ((t : Int) + 1)) ((cb L ((t : Int) + 1)) + 1) (L.length - (cb L ((t : Int) + 1)))) (cb L ((t : Int) + 1)) (nI q)))), ((o 10), .inl (cF, 512, .inr (.inr (.inl (va_cpy f4 f4 (cb L ((t : Int) + 1)) ((cb L ((t : Int) + 1)) + 1) (L.length - (cb L ((t : Int) + 1))))))))]) H := hP
  have hD : va_D A ([((o 6), .inr (1, [.ref (o 7), .ref (o 8), .ref (o 9), .ref (o 10), .int (nI L.length)])), ((o 7), .inl (cI, 512, .inl (upd (va_cpy f1 f1 (cb L ((t : Int) + 1)) ((cb L ((t : Int) + 1)) + 1) (L.length - (cb L ((t : Int) + 1)))) (cb L ((t : Int) + 1)) (nI t)))), ((o 8), .inl (cI, 512, .inl (upd (va_cpy f2 f2 (cb L ((t : Int) + 1)) ((cb L ((t : Int) + 1)) + 1) (L.length - (cb L ((t : Int) + 1)))) (cb L ((t : Int) + 1)) (nI u)))), ((o 9), .inl (cI, 512, .inl (upd (va_cpy f3 f3 (cb L ((t : Int) + 1)) ((cb L ((t : Int) + 1)) + 1) (L.length - (cb L ((t : Int) + 1)))) (cb L ((t : Int) + 1)) (nI q)))), ((o 10), .inl (cF, 512, .inr (.inr (.inl (va_cpy f4 f4 (cb L ((t : Int) + 1)) ((cb L ((t : Int) + 1)) + 1) (L.length - (cb L ((t : Int) + 1))))))))]) := hD
  refine lv_aload_n hx hb dX1_append_44 rfl (lv_at hl 1 rfl) ?_
  refine va_get (D := D) (ci := 1) (v := .ref (o 10)) (C := RX1) (T := TX1) (N := 5) hx hb hts hiX1 hown hK hP 0 rfl rfl 3 (by decide) (hts (.fieldLink RX1 21 "StateKeeper$InputRecord" "numbers" "[F") (List.mem_of_getElem? (i := 4) rfl)) (fun _ h9 => h9) rfl dX1_append_45 ?_
  refine lv_iload hx hb dX1_append_48 (lv_at hl 0 rfl) ?_
  refine lv_fload hx hb dX1_append_50 (lv_at hl 5 rfl) ?_
  refine lz_fast hx hb hK hP hD hS 4 0 rfl rfl (by omega) (by omega) dX1_append_52 (fun H locs hP hD hS => ?_)
  have hP : va_P D vwCl ([((o 6), .inr (1, [.ref (o 7), .ref (o 8), .ref (o 9), .ref (o 10), .int (nI L.length)])), ((o 7), .inl (cI, 512, .inl (upd (va_cpy f1 f1 (cb L ((t : Int) + 1)) ((cb L ((t : Int) + 1)) + 1) (L.length - (cb L ((t : Int) + 1)))) (cb L ((t : Int) + 1)) (nI t)))), ((o 8), .inl (cI, 512, .inl (upd (va_cpy f2 f2 (cb L ((t : Int) + 1)) ((cb L ((t : Int) + 1)) + 1) (L.length - (cb L ((t : Int) + 1)))) (cb L ((t : Int) + 1)) (nI u)))), ((o 9), .inl (cI, 512, .inl (upd (va_cpy f3 f3 (cb L ((t : Int) + 1)) ((cb L ((t : Int) + 1)) + 1) (L.length - (cb L ((t : Int) + 1)))) (cb L ((t : Int) + 1)) (nI q)))), ((o 10), .inl (cF, 512, .inr (.inr (.inl (vf_upd (va_cpy f4 f4 (cb L ((t : Int) + 1)) ((cb L ((t : Int) + 1)) + 1) (L.length - (cb L ((t : Int) + 1)))) (cb L ((t : Int) + 1)) v)))))]) H := hP
  have hD : va_D A ([((o 6), .inr (1, [.ref (o 7), .ref (o 8), .ref (o 9), .ref (o 10), .int (nI L.length)])), ((o 7), .inl (cI, 512, .inl (upd (va_cpy f1 f1 (cb L ((t : Int) + 1)) ((cb L ((t : Int) + 1)) + 1) (L.length - (cb L ((t : Int) + 1)))) (cb L ((t : Int) + 1)) (nI t)))), ((o 8), .inl (cI, 512, .inl (upd (va_cpy f2 f2 (cb L ((t : Int) + 1)) ((cb L ((t : Int) + 1)) + 1) (L.length - (cb L ((t : Int) + 1)))) (cb L ((t : Int) + 1)) (nI u)))), ((o 9), .inl (cI, 512, .inl (upd (va_cpy f3 f3 (cb L ((t : Int) + 1)) ((cb L ((t : Int) + 1)) + 1) (L.length - (cb L ((t : Int) + 1)))) (cb L ((t : Int) + 1)) (nI q)))), ((o 10), .inl (cF, 512, .inr (.inr (.inl (vf_upd (va_cpy f4 f4 (cb L ((t : Int) + 1)) ((cb L ((t : Int) + 1)) + 1) (L.length - (cb L ((t : Int) + 1)))) (cb L ((t : Int) + 1)) v)))))]) := hD
  refine lv_aload_n hx hb dX1_append_53 rfl (lv_at hl 1 rfl) ?_
  refine lv_dup hx hb dX1_append_54 rfl ?_
  refine va_get (D := D) (ci := 1) (v := .int (nI L.length)) (C := RX1) (T := TX1) (N := 5) hx hb hts hiX1 hown hK hP 0 rfl rfl 4 (by decide) (hts (.fieldLink RX1 25 "StateKeeper$InputRecord" "size" "I") (List.mem_of_getElem? (i := 5) rfl)) (fun _ h9 => h9) rfl dX1_append_55 ?_
  refine lv_iconst (v := nI 1) hx hb dX1_append_58 (by decide) ?_
  refine lv_iadd hx hb dX1_append_59 ?_
  refine lz_i (nI_add _ _) ?_
  refine va_put (D := D) (ci := 1) (v := .int (nI (L.length + 1))) (ty := .int) (C := RX1) (T := TX1) (N := 5) hx hb hts hiX1 tyX1 tyX1_ok nmX1 hown hK hP hD hS 0 rfl rfl 4 (by decide) (hts (.fieldLink RX1 25 "StateKeeper$InputRecord" "size" "I") (List.mem_of_getElem? (i := 5) rfl)) (fun _ h9 => h9) rfl (by decide +kernel) rfl rfl (Nat.le_of_ble_eq_true rfl) dX1_append_60 (fun H locs hP hD hS => ?_)
  have hP : va_P D vwCl ([((o 6), .inr (1, [.ref (o 7), .ref (o 8), .ref (o 9), .ref (o 10), .int (nI (L.length + 1))])), ((o 7), .inl (cI, 512, .inl (upd (va_cpy f1 f1 (cb L ((t : Int) + 1)) ((cb L ((t : Int) + 1)) + 1) (L.length - (cb L ((t : Int) + 1)))) (cb L ((t : Int) + 1)) (nI t)))), ((o 8), .inl (cI, 512, .inl (upd (va_cpy f2 f2 (cb L ((t : Int) + 1)) ((cb L ((t : Int) + 1)) + 1) (L.length - (cb L ((t : Int) + 1)))) (cb L ((t : Int) + 1)) (nI u)))), ((o 9), .inl (cI, 512, .inl (upd (va_cpy f3 f3 (cb L ((t : Int) + 1)) ((cb L ((t : Int) + 1)) + 1) (L.length - (cb L ((t : Int) + 1)))) (cb L ((t : Int) + 1)) (nI q)))), ((o 10), .inl (cF, 512, .inr (.inr (.inl (vf_upd (va_cpy f4 f4 (cb L ((t : Int) + 1)) ((cb L ((t : Int) + 1)) + 1) (L.length - (cb L ((t : Int) + 1)))) (cb L ((t : Int) + 1)) v)))))]) H := hP
  have hD : va_D A ([((o 6), .inr (1, [.ref (o 7), .ref (o 8), .ref (o 9), .ref (o 10), .int (nI (L.length + 1))])), ((o 7), .inl (cI, 512, .inl (upd (va_cpy f1 f1 (cb L ((t : Int) + 1)) ((cb L ((t : Int) + 1)) + 1) (L.length - (cb L ((t : Int) + 1)))) (cb L ((t : Int) + 1)) (nI t)))), ((o 8), .inl (cI, 512, .inl (upd (va_cpy f2 f2 (cb L ((t : Int) + 1)) ((cb L ((t : Int) + 1)) + 1) (L.length - (cb L ((t : Int) + 1)))) (cb L ((t : Int) + 1)) (nI u)))), ((o 9), .inl (cI, 512, .inl (upd (va_cpy f3 f3 (cb L ((t : Int) + 1)) ((cb L ((t : Int) + 1)) + 1) (L.length - (cb L ((t : Int) + 1)))) (cb L ((t : Int) + 1)) (nI q)))), ((o 10), .inl (cF, 512, .inr (.inr (.inl (vf_upd (va_cpy f4 f4 (cb L ((t : Int) + 1)) ((cb L ((t : Int) + 1)) + 1) (L.length - (cb L ((t : Int) + 1)))) (cb L ((t : Int) + 1)) v)))))]) := hD
  exact W.vret hx hb hr (fun t9 ht9 _ => ⟨⟨[((o 6), .inr (1, [.ref (o 7), .ref (o 8), .ref (o 9), .ref (o 10), .int (nI (L.length + 1))])), ((o 7), .inl (cI, 512, .inl (upd (va_cpy f1 f1 (cb L ((t : Int) + 1)) ((cb L ((t : Int) + 1)) + 1) (L.length - (cb L ((t : Int) + 1)))) (cb L ((t : Int) + 1)) (nI t)))), ((o 8), .inl (cI, 512, .inl (upd (va_cpy f2 f2 (cb L ((t : Int) + 1)) ((cb L ((t : Int) + 1)) + 1) (L.length - (cb L ((t : Int) + 1)))) (cb L ((t : Int) + 1)) (nI u)))), ((o 9), .inl (cI, 512, .inl (upd (va_cpy f3 f3 (cb L ((t : Int) + 1)) ((cb L ((t : Int) + 1)) + 1) (L.length - (cb L ((t : Int) + 1)))) (cb L ((t : Int) + 1)) (nI q)))), ((o 10), .inl (cF, 512, .inr (.inr (.inl (vf_upd (va_cpy f4 f4 (cb L ((t : Int) + 1)) ((cb L ((t : Int) + 1)) + 1) (L.length - (cb L ((t : Int) + 1)))) (cb L ((t : Int) + 1)) v)))))], rfl, ⟨_, _, _, _, hins, by rw [hlen]⟩, by show va_P D vwCl _ t9.heap; rw [ht9]; exact hP⟩, hS.F ht9⟩) hS.2.2 dX1_append_63

set_option maxRecDepth 100000 in
set_option maxHeartbeats 4000000 in
/-- dropBelow(step) -/
theorem c_X1_dropBelow {t : Nat} {L : List rI} {n : Nat} (hok : recOk L f1 f2 f3 f4) (hs : srt L) (hL : rIn n L) (ht : t < 2 ^ 30) : Met l yX1_dropBelow wsX1_dropBelow (rmk 2 0 0) (pcW l D cI cF cQ aT [.ref (o 6), .int (nI t)] (recW cI cF o L.length f1 f2 f3 f4) sz) (va_Qv (fun (w1 : va_W) => WR cI cF o (L.filter (fun e => decide ((t : Int) ≤ (e.1 : Int)))) w1) (fun w1 t => va_P D vwCl w1 t.heap) (va_A (recW cI cF o L.length f1 f2 f3 f4) sz)) 0 0 (va_A (recW cI cF o L.length f1 f2 f3 f4) sz) := by
  refine lz_ofM (Qf := fun A => va_Qv (fun (w1 : va_W) => WR cI cF o (L.filter (fun e => decide ((t : Int) ≤ (e.1 : Int)))) w1) (fun w1 t => va_P D vwCl w1 t.heap) A) (cc := cX1_dropBelow) (maxL := 3) (ret := none) (by decide) rfl (Nat.le_of_ble_eq_true rfl) ?_
  intro p e s m below meth c A hAe hsz hx hb hr hlk hin hC hP hD hS ls hl
  clear hAe
  have hts := hC.1.2.2.2.2
  have hown : s.vm.findClass RX1 = some m.cls := hC.1.2.2.2.1
  have hml := hC.1.2.2.1
  have hA := hC.2.1
  have hK := hC.2.2.2.1
  have hnm := hC.2.2.2.2.1
  have hnf := hC.2.2.2.2.2.1
  have hiX1 : ∀ w ∈ u_ws RX1 TX1 5, w ∈ wsX1_dropBelow := fun _ h => List.mem_cons_of_mem _ (List.mem_append_right _ h)
  have hl : lv_has ls 3 [(0, .ref (o 6)), (1, .int (nI t))] := hl
  have hk := hL.1
  have hcb := cb_le L (t : Int)
  refine lv_aload_n hx hb dX1_dropBelow_0 rfl (lv_at hl 0 rfl) ?_
  refine lv_iload_n hx hb dX1_dropBelow_1 rfl (lv_at hl 1 rfl) ?_
  refine lv_i2l (v := (nI t).toInt64) hx hb dX1_dropBelow_2 rfl ?_
  refine vp_callSi (lz_runV (C := RX1) (As := [.long (nI t).toInt64]) (rest := []) hC hS hl (c_X1_sizeBelow hok hs hL) (cwV 1 hts gX1_dropBelow_X1_sizeBelow rfl rfl rfl (by decide +kernel) ⟨Nat.le_of_ble_eq_true rfl, Nat.le_of_ble_eq_true rfl⟩) hP hD (va_recv hK hP (ci := 1) (q0 := 0) rfl rfl) rfl rfl (Nat.le_of_ble_eq_true rfl) dX1_dropBelow_3 ⟨Nat.le_of_ble_eq_true rfl, Nat.le_of_ble_eq_true rfl⟩).run (fun r_1 er_1 => ?_)
  subst er_1
  refine lz_i (y := nI (cb L (t : Int))) (by rw [il_toInt, nI_toInt (by omega)]) ?_
  have hdr := recOk_drop hok (cb L (t : Int))
  have hlen : (L.drop (cb L (t : Int))).length = L.length - (cb L (t : Int)) := List.length_drop
  refine lv_istore_n (lv' := [(2, .int (nI (cb L (t : Int)))), (0, .ref (o 6)), (1, .int (nI t))]) hx hb dX1_dropBelow_6 rfl hl (by decide) rfl (fun ls hl => ?_)
  refine lv_aload_n hx hb dX1_dropBelow_7 rfl (lv_at hl 1 rfl) ?_
  refine lv_iload_n hx hb dX1_dropBelow_8 rfl (lv_at hl 0 rfl) ?_
  refine lv_iconst (v := nI 0) hx hb dX1_dropBelow_9 (by decide) ?_
  refine lz_cMv0 (lz_runV (C := RX1) (As := [.int (nI (cb L (t : Int))), .int (nI 0)]) (rest := []) hC hS hl (c_X1_moveRest (by omega) (by omega) (by omega)) (cwV 2 hts gX1_dropBelow_X1_moveRest rfl rfl rfl (by decide +kernel) ⟨Nat.le_of_ble_eq_true rfl, Nat.le_of_ble_eq_true rfl⟩) hP hD (va_recv hK hP (ci := 1) (q0 := 0) rfl rfl) rfl rfl (Nat.le_of_ble_eq_true rfl) dX1_dropBelow_10 ⟨Nat.le_of_ble_eq_true rfl, Nat.le_of_ble_eq_true rfl⟩) hD hS hA (fun w1 h => by rw [h]; rfl) (fun w1 H locs hpo hP hD hS => ?_)
  obtain rfl := hpo
  have hP : va_P D vwCl ([((o 6), .inr (1, [.ref (o 7), .ref (o 8), .ref (o 9), .ref (o 10), .int (nI L.length)])), ((o 7), .inl (cI, 512, .inl (va_cpy f1 f1 (cb L (t : Int)) 0 (L.length - (cb L (t : Int)))))), ((o 8), .inl (cI, 512, .inl (va_cpy f2 f2 (cb L (t : Int)) 0 (L.length - (cb L (t : Int)))))), ((o 9), .inl (cI, 512, .inl (va_cpy f3 f3 (cb L (t : Int)) 0 (L.length - (cb L (t : Int)))))), ((o 10), .inl (cF, 512, .inr (.inr (.inl (va_cpy f4 f4 (cb L (t : Int)) 0 (L.length - (cb L (t : Int))))))))]) H := hP
  have hD : va_D A ([((o 6), .inr (1, [.ref (o 7), .ref (o 8), .ref (o 9), .ref (o 10), .int (nI L.length)])), ((o 7), .inl (cI, 512, .inl (va_cpy f1 f1 (cb L (t : Int)) 0 (L.length - (cb L (t : Int)))))), ((o 8), .inl (cI, 512, .inl (va_cpy f2 f2 (cb L (t : Int)) 0 (L.length - (cb L (t : Int)))))), ((o 9), .inl (cI, 512, .inl (va_cpy f3 f3 (cb L (t : Int)) 0 (L.length - (cb L (t : Int)))))), ((o 10), .inl (cF, 512, .inr (.inr (.inl (va_cpy f4 f4 (cb L (t : Int)) 0 (L.length - (cb L (t : Int))))))))]) := hD
  refine lv_aload_n hx hb dX1_dropBelow_13 rfl (lv_at hl 1 rfl) ?_
  refine lv_dup hx hb dX1_dropBelow_14 rfl ?_
  refine va_get (D := D) (ci := 1) (v := .int (nI L.length)) (C := RX1) (T := TX1) (N := 5) hx hb hts hiX1 hown hK hP 0 rfl rfl 4 (by decide) (hts (.fieldLink RX1 25 "StateKeeper$InputRecord" "size" "I") (List.mem_of_getElem? (i := 1) rfl)) (fun _ h9 => h9) rfl dX1_dropBelow_15 ?_
  refine lv_iload_n hx hb dX1_dropBelow_18 rfl (lv_at hl 0 rfl) ?_
  refine lv_isub hx hb dX1_dropBelow_19 ?_
  refine lz_i (pk_sub hcb) ?_
  refine va_put (D := D) (ci := 1) (v := .int (nI (L.length - (cb L (t : Int))))) (ty := .int) (C := RX1) (T := TX1) (N := 5) hx hb hts hiX1 tyX1 tyX1_ok nmX1 hown hK hP hD hS 0 rfl rfl 4 (by decide) (hts (.fieldLink RX1 25 "StateKeeper$InputRecord" "size" "I") (List.mem_of_getElem? (i := 1) rfl)) (fun _ h9 => h9) rfl (by decide +kernel) rfl rfl (Nat.le_of_ble_eq_true rfl) dX1_dropBelow_20 (fun H locs hP hD hS => ?_)
  have hP : va_P D vwCl ([((o 6), .inr (1, [.ref (o 7), .ref (o 8), .ref (o 9), .ref (o 10), .int (nI (L.length - (cb L (t : Int))))])), ((o 7), .inl (cI, 512, .inl (va_cpy f1 f1 (cb L (t : Int)) 0 (L.length - (cb L (t : Int)))))), ((o 8), .inl (cI, 512, .inl (va_cpy f2 f2 (cb L (t : Int)) 0 (L.length - (cb L (t : Int)))))), ((o 9), .inl (cI, 512, .inl (va_cpy f3 f3 (cb L (t : Int)) 0 (L.length - (cb L (t : Int)))))), ((o 10), .inl (cF, 512, .inr (.inr (.inl (va_cpy f4 f4 (cb L (t : Int)) 0 (L.length - (cb L (t : Int))))))))]) H := hP
  have hD : va_D A ([((o 6), .inr (1, [.ref (o 7), .ref (o 8), .ref (o 9), .ref (o 10), .int (nI (L.length - (cb L (t : Int))))])), ((o 7), .inl (cI, 512, .inl (va_cpy f1 f1 (cb L (t : Int)) 0 (L.length - (cb L (t : Int)))))), ((o 8), .inl (cI, 512, .inl (va_cpy f2 f2 (cb L (t : Int)) 0 (L.length - (cb L (t : Int)))))), ((o 9), .inl (cI, 512, .inl (va_cpy f3 f3 (cb L (t : Int)) 0 (L.length - (cb L (t : Int)))))), ((o 10), .inl (cF, 512, .inr (.inr (.inl (va_cpy f4 f4 (cb L (t : Int)) 0 (L.length - (cb L (t : Int))))))))]) := hD
  exact W.vret hx hb hr (fun t9 ht9 _ => ⟨⟨[((o 6), .inr (1, [.ref (o 7), .ref (o 8), .ref (o 9), .ref (o 10), .int (nI (L.length - (cb L (t : Int))))])), ((o 7), .inl (cI, 512, .inl (va_cpy f1 f1 (cb L (t : Int)) 0 (L.length - (cb L (t : Int)))))), ((o 8), .inl (cI, 512, .inl (va_cpy f2 f2 (cb L (t : Int)) 0 (L.length - (cb L (t : Int)))))), ((o 9), .inl (cI, 512, .inl (va_cpy f3 f3 (cb L (t : Int)) 0 (L.length - (cb L (t : Int)))))), ((o 10), .inl (cF, 512, .inr (.inr (.inl (va_cpy f4 f4 (cb L (t : Int)) 0 (L.length - (cb L (t : Int))))))))], rfl, by rw [← rc_drop hs]; exact ⟨_, _, _, _, hdr, by rw [hlen]⟩, by show va_P D vwCl _ t9.heap; rw [ht9]; exact hP⟩, hS.F ht9⟩) hS.2.2 dX1_dropBelow_23

set_option maxRecDepth 100000 in
set_option maxHeartbeats 4000000 in
/-- dropFrom(step) -/
theorem c_X1_dropFrom {z : Int32} {L : List rI} {n : Nat} (hok : recOk L f1 f2 f3 f4) (hs : srt L) (hL : rIn n L) : Met l yX1_dropFrom wsX1_dropFrom (rmk 1 0 0) (pcW l D cI cF cQ aT [.ref (o 6), .int z] (recW cI cF o L.length f1 f2 f3 f4) sz) (va_Qi (fun (r : Int32) (w1 : va_W) => r = nI (L.length - cb L z.toInt) ∧ WR cI cF o (L.filter (fun e => decide ((e.1 : Int) < z.toInt))) w1) (fun w1 t => va_P D vwCl w1 t.heap) (va_A (recW cI cF o L.length f1 f2 f3 f4) sz)) 0 0 (va_A (recW cI cF o L.length f1 f2 f3 f4) sz) := by
  refine lz_ofM (Qf := fun A => va_Qi (fun (r : Int32) (w1 : va_W) => r = nI (L.length - cb L z.toInt) ∧ WR cI cF o (L.filter (fun e => decide ((e.1 : Int) < z.toInt))) w1) (fun w1 t => va_P D vwCl w1 t.heap) A) (cc := cX1_dropFrom) (maxL := 3) (ret := (some .int)) (by decide) rfl (Nat.le_of_ble_eq_true rfl) ?_
  intro p e s m below meth c A hAe hsz hx hb hr hlk hin hC hP hD hS ls hl
  clear hAe
  have hts := hC.1.2.2.2.2
  have hown : s.vm.findClass RX1 = some m.cls := hC.1.2.2.2.1
  have hml := hC.1.2.2.1
  have hA := hC.2.1
  have hK := hC.2.2.2.1
  have hnm := hC.2.2.2.2.1
  have hnf := hC.2.2.2.2.2.1
  have hiX1 : ∀ w ∈ u_ws RX1 TX1 5, w ∈ wsX1_dropFrom := fun _ h => List.mem_cons_of_mem _ (List.mem_append_right _ h)
  have hl : lv_has ls 3 [(0, .ref (o 6)), (1, .int z)] := hl
  have hk := hL.1
  have hcb := cb_le L z.toInt
  refine lv_aload_n hx hb dX1_dropFrom_0 rfl (lv_at hl 0 rfl) ?_
  refine va_get (D := D) (ci := 1) (v := .int (nI L.length)) (C := RX1) (T := TX1) (N := 5) hx hb hts hiX1 hown hK hP 0 rfl rfl 4 (by decide) (hts (.fieldLink RX1 25 "StateKeeper$InputRecord" "size" "I") (List.mem_of_getElem? (i := 1) rfl)) (fun _ h9 => h9) rfl dX1_dropFrom_1 ?_
  refine lv_istore_n (lv' := [(2, .int (nI L.length)), (0, .ref (o 6)), (1, .int z)]) hx hb dX1_dropFrom_4 rfl hl (by decide) rfl (fun ls hl => ?_)
  refine lv_aload_n hx hb dX1_dropFrom_5 rfl (lv_at hl 1 rfl) ?_
  refine lv_aload_n hx hb dX1_dropFrom_6 rfl (lv_at hl 1 rfl) ?_
  refine lv_iload_n hx hb dX1_dropFrom_7 rfl (lv_at hl 2 rfl) ?_
  refine lv_i2l (v := z.toInt64) hx hb dX1_dropFrom_8 rfl ?_
  refine vp_callSi (lz_runV (C := RX1) (As := [.long z.toInt64]) (rest := [.ref (o 6)]) hC hS hl (c_X1_sizeBelow hok hs hL) (cwV 1 hts gX1_dropFrom_X1_sizeBelow rfl rfl rfl (by decide +kernel) ⟨Nat.le_of_ble_eq_true rfl, Nat.le_of_ble_eq_true rfl⟩) hP hD (va_recv hK hP (ci := 1) (q0 := 0) rfl rfl) rfl rfl (Nat.le_of_ble_eq_true rfl) dX1_dropFrom_9 ⟨Nat.le_of_ble_eq_true rfl, Nat.le_of_ble_eq_true rfl⟩).run (fun r_1 er_1 => ?_)
  subst er_1
  refine lz_i (y := nI (cb L z.toInt)) (by rw [il_toInt]) ?_
  refine va_put (D := D) (ci := 1) (v := .int (nI (cb L z.toInt))) (ty := .int) (C := RX1) (T := TX1) (N := 5) hx hb hts hiX1 tyX1 tyX1_ok nmX1 hown hK hP hD hS 0 rfl rfl 4 (by decide) (hts (.fieldLink RX1 25 "StateKeeper$InputRecord" "size" "I") (List.mem_of_getElem? (i := 1) rfl)) (fun _ h9 => h9) rfl (by decide +kernel) rfl rfl (Nat.le_of_ble_eq_true rfl) dX1_dropFrom_12 (fun H locs hP hD hS => ?_)
  have hP : va_P D vwCl ([((o 6), .inr (1, [.ref (o 7), .ref (o 8), .ref (o 9), .ref (o 10), .int (nI (cb L z.toInt))])), ((o 7), .inl (cI, 512, .inl f1)), ((o 8), .inl (cI, 512, .inl f2)), ((o 9), .inl (cI, 512, .inl f3)), ((o 10), .inl (cF, 512, .inr (.inr (.inl f4))))]) H := hP
  have hD : va_D A ([((o 6), .inr (1, [.ref (o 7), .ref (o 8), .ref (o 9), .ref (o 10), .int (nI (cb L z.toInt))])), ((o 7), .inl (cI, 512, .inl f1)), ((o 8), .inl (cI, 512, .inl f2)), ((o 9), .inl (cI, 512, .inl f3)), ((o 10), .inl (cF, 512, .inr (.inr (.inl f4))))]) := hD
  refine lv_iload_n hx hb dX1_dropFrom_15 rfl (lv_at hl 0 rfl) ?_
  refine lv_aload_n hx hb dX1_dropFrom_16 rfl (lv_at hl 1 rfl) ?_
  refine va_get (D := D) (ci := 1) (v := .int (nI (cb L z.toInt))) (C := RX1) (T := TX1) (N := 5) hx hb hts hiX1 hown hK hP 0 rfl rfl 4 (by decide) (hts (.fieldLink RX1 25 "StateKeeper$InputRecord" "size" "I") (List.mem_of_getElem? (i := 1) rfl)) (fun _ h9 => h9) rfl dX1_dropFrom_17 ?_
  refine lv_isub hx hb dX1_dropFrom_20 ?_
  refine lz_i (pk_sub hcb) ?_
  have hlen : (L.take (cb L z.toInt)).length = cb L z.toInt := by rw [List.length_take]; omega
  exact W.iret hx hb hr (fun t9 ht9 _ => ⟨⟨_, [((o 6), .inr (1, [.ref (o 7), .ref (o 8), .ref (o 9), .ref (o 10), .int (nI (cb L z.toInt))])), ((o 7), .inl (cI, 512, .inl f1)), ((o 8), .inl (cI, 512, .inl f2)), ((o 9), .inl (cI, 512, .inl f3)), ((o 10), .inl (cF, 512, .inr (.inr (.inl f4))))], rfl, ⟨rfl, by rw [← rc_take hs]; exact ⟨_, _, _, _, recOk_take hok _, by rw [hlen]⟩⟩, by show va_P D vwCl _ t9.heap; rw [ht9]; exact hP⟩, hS.F ht9⟩) hS.2.2 dX1_dropFrom_21

set_option maxRecDepth 100000 in
set_option maxHeartbeats 4000000 in
/-- putIn(step, cells) -/
theorem c_X1_putIn {t : Nat} {ce : Nat → UInt32} {L : List rI} {n : Nat} (hok : recOk L f1 f2 f3 f4) (hs : srt L) (hL : rIn n L) (ht : t < 2 ^ 30) (hn : n ≤ 256) (hce : cfin ce) : Met l yX1_putIn wsX1_putIn (rmk 1 0 0) (pcW l D cI cF cQ aT [.ref (o 6), .int (nI t), .ref (o 1)] (((o 1), .inl (cF, n, .inr (.inr (.inl ce)))) :: (recW cI cF o L.length f1 f2 f3 f4)) sz) (va_Qv (fun (w1 : va_W) => w1 = ((o 1), .inl (cF, n, .inr (.inr (.inl ((L.filter (fun e => decide ((e.1 : Int) = (t : Int)))).foldl actC ce))))) :: (recW cI cF o L.length f1 f2 f3 f4)) (fun w1 t => va_P D vwCl w1 t.heap) (va_A (((o 1), .inl (cF, n, .inr (.inr (.inl ce)))) :: (recW cI cF o L.length f1 f2 f3 f4)) sz)) 0 0 (va_A (((o 1), .inl (cF, n, .inr (.inr (.inl ce)))) :: (recW cI cF o L.length f1 f2 f3 f4)) sz) := by
  refine lz_ofM (Qf := fun A => va_Qv (fun (w1 : va_W) => w1 = ((o 1), .inl (cF, n, .inr (.inr (.inl ((L.filter (fun e => decide ((e.1 : Int) = (t : Int)))).foldl actC ce))))) :: (recW cI cF o L.length f1 f2 f3 f4)) (fun w1 t => va_P D vwCl w1 t.heap) A) (cc := cX1_putIn) (maxL := 6) (ret := none) (by decide) rfl (Nat.le_of_ble_eq_true rfl) ?_
  intro p e s m below meth c A hAe hsz hx hb hr hlk hin hC hP hD hS ls hl
  clear hAe
  have hts := hC.1.2.2.2.2
  have hown : s.vm.findClass RX1 = some m.cls := hC.1.2.2.2.1
  have hml := hC.1.2.2.1
  have hA := hC.2.1
  have hK := hC.2.2.2.1
  have hnm := hC.2.2.2.2.1
  have hnf := hC.2.2.2.2.2.1
  have hiX1 : ∀ w ∈ u_ws RX1 TX1 5, w ∈ wsX1_putIn := fun _ h => List.mem_cons_of_mem _ (List.mem_append_right _ h)
  have hl : lv_has ls 6 [(0, .ref (o 6)), (1, .int (nI t)), (2, .ref (o 1))] := hl
  have hk := hL.1
  have hlo := cb_le L (t : Int)
  have hhi := cb_le L ((t : Int) + 1)
  have hm := cb_mono L (show (t : Int) ≤ (t : Int) + 1 by omega)
  have hmid := rc_mid hs (t : Int)
  have hPr : va_P D vwCl (recW cI cF o L.length f1 f2 f3 f4) s.heap := lz_rightP (w := [((o 1), .inl (cF, n, .inr (.inr (.inl ce))))]) hP
  have hDr : va_D A (recW cI cF o L.length f1 f2 f3 f4) := hD.sub [1, 2, 3, 4, 5] (by decide) rfl
  refine lv_aload_n hx hb dX1_putIn_0 rfl (lv_at hl 0 rfl) ?_
  refine lv_iload_n hx hb dX1_putIn_1 rfl (lv_at hl 1 rfl) ?_
  refine lv_i2l (v := (nI t).toInt64) hx hb dX1_putIn_2 rfl ?_
  refine lv_lconst (v := lN 1) hx hb dX1_putIn_3 (by decide) ?_
  refine lv_ladd hx hb dX1_putIn_4 ?_
  refine vp_callSi (lz_runV (C := RX1) (As := [.long (((nI t).toInt64) + (lN 1))]) (rest := []) hC hS hl (c_X1_sizeBelow hok hs hL) (cwV 1 hts gX1_putIn_X1_sizeBelow rfl rfl rfl (by decide +kernel) ⟨Nat.le_of_ble_eq_true rfl, Nat.le_of_ble_eq_true rfl⟩) hPr hDr (va_recv hK hPr (ci := 1) (q0 := 0) rfl rfl) rfl rfl (Nat.le_of_ble_eq_true rfl) dX1_putIn_5 ⟨Nat.le_of_ble_eq_true rfl, Nat.le_of_ble_eq_true rfl⟩).run (fun r_1 er_1 => ?_)
  subst er_1
  refine lz_i (y := nI (cb L ((t : Int) + 1))) (by rw [il_1, nI_toInt (by omega)]) ?_
  refine lv_istore_n (lv' := [(3, .int (nI (cb L ((t : Int) + 1)))), (0, .ref (o 6)), (1, .int (nI t)), (2, .ref (o 1))]) hx hb dX1_putIn_8 rfl hl (by decide) rfl (fun ls hl => ?_)
  refine lv_aload_n hx hb dX1_putIn_9 rfl (lv_at hl 1 rfl) ?_
  refine lv_iload_n hx hb dX1_putIn_10 rfl (lv_at hl 2 rfl) ?_
  refine lv_i2l (v := (nI t).toInt64) hx hb dX1_putIn_11 rfl ?_
  refine vp_callSi (lz_runV (C := RX1) (As := [.long (nI t).toInt64]) (rest := []) hC hS hl (c_X1_sizeBelow hok hs hL) (cwV 1 hts gX1_putIn_X1_sizeBelow rfl rfl rfl (by decide +kernel) ⟨Nat.le_of_ble_eq_true rfl, Nat.le_of_ble_eq_true rfl⟩) hPr hDr (va_recv hK hPr (ci := 1) (q0 := 0) rfl rfl) rfl rfl (Nat.le_of_ble_eq_true rfl) dX1_putIn_12 ⟨Nat.le_of_ble_eq_true rfl, Nat.le_of_ble_eq_true rfl⟩).run (fun r_2 er_2 => ?_)
  subst er_2
  refine lz_i (y := nI (cb L (t : Int))) (by rw [il_toInt, nI_toInt (by omega)]) ?_
  refine lv_istore (lv' := [(4, .int (nI (cb L (t : Int)))), (3, .int (nI (cb L ((t : Int) + 1)))), (0, .ref (o 6)), (1, .int (nI t)), (2, .ref (o 1))]) hx hb dX1_putIn_15 hl (by decide) rfl (fun ls hl => ?_)
  have loop : ∀ (r i : Nat), r + i = (cb L ((t : Int) + 1)) → (cb L (t : Int)) ≤ i → ∀ (H : Heap) (locs : List Loc) (ls : Array Slot), va_P D vwCl ([((o 1), .inl (cF, n, .inr (.inr (.inl ((seg L (cb L (t : Int)) i).foldl actC ce))))), ((o 6), .inr (1, [.ref (o 7), .ref (o 8), .ref (o 9), .ref (o 10), .int (nI L.length)])), ((o 7), .inl (cI, 512, .inl f1)), ((o 8), .inl (cI, 512, .inl f2)), ((o 9), .inl (cI, 512, .inl f3)), ((o 10), .inl (cF, 512, .inr (.inr (.inl f4))))]) H → va_D A ([((o 1), .inl (cF, n, .inr (.inr (.inl ((seg L (cb L (t : Int)) i).foldl actC ce))))), ((o 6), .inr (1, [.ref (o 7), .ref (o 8), .ref (o 9), .ref (o 10), .int (nI L.length)])), ((o 7), .inl (cI, 512, .inl f1)), ((o 8), .inl (cI, 512, .inl f2)), ((o 9), .inl (cI, 512, .inl f3)), ((o 10), .inl (cF, 512, .inr (.inr (.inl f4))))]) → va_S A s.heap H locs → lv_has ls 6 [(4, .int (nI i)), (3, .int (nI (cb L ((t : Int) + 1)))), (0, .ref (o 6)), (1, .int (nI t)), (2, .ref (o 1))] → W p l e (rmk 1 0 0) s m [.ref (o 6), .int (nI t), .ref (o 1)].toArray below meth c H locs 0 0 (MQ below (va_Qv (fun (w1 : va_W) => w1 = ((o 1), .inl (cF, n, .inr (.inr (.inl ((L.filter (fun e => decide ((e.1 : Int) = (t : Int)))).foldl actC ce))))) :: (recW cI cF o L.length f1 f2 f3 f4)) (fun w1 t => va_P D vwCl w1 t.heap) A) [.ref (o 6), .int (nI t), .ref (o 1)].toArray s 0 0 A) (F0 m 17 ls []) := by
    intro r
    induction r with
    | zero =>
      intro i h1 h2 H locs ls hP hD hS hl
      refine lv_iload hx hb dX1_putIn_17 (lv_at hl 0 rfl) ?_
      refine lv_iload_n hx hb dX1_putIn_19 rfl (lv_at hl 1 rfl) ?_
      refine lv_icmp_ge (tgt := 66) hx hb dX1_putIn_20 (by decide) (fun c_3 => ?_) (fun c_3 => absurd (nI_le (by omega) (by omega)) c_3)
      have hi2 : i = (cb L ((t : Int) + 1)) := by omega
      subst hi2
      exact W.vret hx hb hr (fun t9 ht9 _ => ⟨⟨[((o 1), .inl (cF, n, .inr (.inr (.inl ((seg L (cb L (t : Int)) (cb L ((t : Int) + 1))).foldl actC ce))))), ((o 6), .inr (1, [.ref (o 7), .ref (o 8), .ref (o 9), .ref (o 10), .int (nI L.length)])), ((o 7), .inl (cI, 512, .inl f1)), ((o 8), .inl (cI, 512, .inl f2)), ((o 9), .inl (cI, 512, .inl f3)), ((o 10), .inl (cF, 512, .inr (.inr (.inl f4))))], rfl, by rw [← hmid]; rfl, by show va_P D vwCl _ t9.heap; rw [ht9]; exact hP⟩, hS.F ht9⟩) hS.2.2 dX1_putIn_66
    | succ r ih =>
      intro i h1 h2 H locs ls hP hD hS hl
      obtain ⟨e9, he⟩ : ∃ e9, L[i]? = some e9 := ⟨L[i], List.getElem?_eq_getElem (by omega)⟩
      have hok9 := hok i e9 he
      have hin9 := hL.2 e9 (List.mem_of_getElem? he)
      have hsg := seg_succ h2 he
      have hcf : cfin ((seg L (cb L (t : Int)) i).foldl actC ce) := acts_fin (fun x hx => (hL.2 x (seg_mem hx)).2.2.2) hce
      have hn9 : n < 2 ^ 31 := by omega
      refine lv_iload hx hb dX1_putIn_17 (lv_at hl 0 rfl) ?_
      refine lv_iload_n hx hb dX1_putIn_19 rfl (lv_at hl 1 rfl) ?_
      refine lv_icmp_ge (tgt := 66) hx hb dX1_putIn_20 (by decide) (fun c1 => absurd c1 (nI_ge (by omega) (by omega))) (fun c1 => ?_)
      refine lv_aload_n hx hb dX1_putIn_23 rfl (lv_at hl 2 rfl) ?_
      refine va_get (D := D) (ci := 1) (v := .ref (o 8)) (C := RX1) (T := TX1) (N := 5) hx hb hts hiX1 hown hK hP 1 rfl rfl 1 (by decide) (hts (.fieldLink RX1 15 "StateKeeper$InputRecord" "targets" "[I") (List.mem_of_getElem? (i := 1) rfl)) (fun _ h9 => h9) rfl dX1_putIn_24 ?_
      refine lv_iload hx hb dX1_putIn_27 (lv_at hl 0 rfl) ?_
      refine lz_iald hx hb hK hP 3 1 rfl rfl (by omega) (by omega) dX1_putIn_29 ?_
      refine lz_i (y := nI e9.2.1) hok9.2.1 ?_
      refine lv_istore (lv' := [(5, .int (nI e9.2.1)), (4, .int (nI i)), (3, .int (nI (cb L ((t : Int) + 1)))), (0, .ref (o 6)), (1, .int (nI t)), (2, .ref (o 1))]) hx hb dX1_putIn_30 hl (by decide) rfl (fun ls hl => ?_)
      refine lv_aload_n hx hb dX1_putIn_32 rfl (lv_at hl 5 rfl) ?_
      refine lv_iload hx hb dX1_putIn_33 (lv_at hl 0 rfl) ?_
      refine lv_aload_n hx hb dX1_putIn_35 rfl (lv_at hl 5 rfl) ?_
      refine lv_iload hx hb dX1_putIn_36 (lv_at hl 0 rfl) ?_
      refine lz_fald hx hb hK hP 0 0 rfl rfl hin9.2.1 hn9 dX1_putIn_38 ?_
      refine lv_aload_n hx hb dX1_putIn_39 rfl (lv_at hl 3 rfl) ?_
      refine va_get (D := D) (ci := 1) (v := .ref (o 9)) (C := RX1) (T := TX1) (N := 5) hx hb hts hiX1 hown hK hP 1 rfl rfl 2 (by decide) (hts (.fieldLink RX1 18 "StateKeeper$InputRecord" "ways" "[I") (List.mem_of_getElem? (i := 2) rfl)) (fun _ h9 => h9) rfl dX1_putIn_40 ?_
      refine lv_iload hx hb dX1_putIn_43 (lv_at hl 1 rfl) ?_
      refine lz_iald hx hb hK hP 4 1 rfl rfl (by omega) (by omega) dX1_putIn_45 ?_
      refine lz_i (y := nI e9.2.2.1) hok9.2.2.1 ?_
      refine lv_aload_n hx hb dX1_putIn_46 rfl (lv_at hl 3 rfl) ?_
      refine va_get (D := D) (ci := 1) (v := .ref (o 10)) (C := RX1) (T := TX1) (N := 5) hx hb hts hiX1 hown hK hP 1 rfl rfl 3 (by decide) (hts (.fieldLink RX1 21 "StateKeeper$InputRecord" "numbers" "[F") (List.mem_of_getElem? (i := 3) rfl)) (fun _ h9 => h9) rfl dX1_putIn_47 ?_
      refine lv_iload hx hb dX1_putIn_50 (lv_at hl 1 rfl) ?_
      refine lz_fald hx hb hK hP 5 0 rfl rfl (by omega) (by omega) dX1_putIn_52 ?_
      refine lz_f (y := e9.2.2.2) hok9.2.2.2 ?_
      refine vp_callSf (lz_runS (As := [.float (((seg L (cb L (t : Int)) i).foldl actC ce) e9.2.1), .int (nI e9.2.2.1), .float (e9.2.2.2)]) (rest := [.int (nI e9.2.1), .ref (o 1)]) hC hS hl (c_X1_changed hin9.2.2.1 (hcf _) hin9.2.2.2) (va_cwS 3 hts gX1_putIn_X1_changed rfl rfl rfl (by decide +kernel) ⟨Nat.le_of_ble_eq_true rfl, Nat.le_of_ble_eq_true rfl⟩) lz_nilP lz_nilD rfl rfl (Nat.le_of_ble_eq_true rfl) dX1_putIn_53 ⟨Nat.le_of_ble_eq_true rfl, Nat.le_of_ble_eq_true rfl⟩).run (fun r_4 er_4 => ?_)
      subst er_4
      refine vp_callSf (lz_runSN (As := [.float (chg (((seg L (cb L (t : Int)) i).foldl actC ce) e9.2.1) e9.2.2.1 e9.2.2.2)]) (rest := [.int (nI e9.2.1), .ref (o 1)]) hC hS hl (c_X3_held (chg_N (hcf _) hin9.2.2.2)) ⟨va_cnB 1 hts gX1_putIn_X3_held_n47 rfl rfl rfl (hnm (RX1, 47, yX3_held) (by decide)) (hts (.initialized RX3) (List.mem_of_getElem? (i := 15) rfl)) (by decide +kernel) ⟨Nat.le_of_ble_eq_true rfl, Nat.le_of_ble_eq_true rfl⟩, (hts (.static yX3_held) (List.mem_of_getElem? (i := 14) rfl)), trivial⟩ lz_nilP lz_nilD rfl rfl (Nat.le_of_ble_eq_true rfl) dX1_putIn_56 ⟨Nat.le_of_ble_eq_true rfl, Nat.le_of_ble_eq_true rfl⟩).run (fun r_5 er_5 => ?_)
      subst er_5
      refine lz_fast hx hb hK hP hD hS 0 0 rfl rfl hin9.2.1 hn9 dX1_putIn_59 (fun H locs hP hD hS => ?_)
      have hP : va_P D vwCl ([((o 1), .inl (cF, n, .inr (.inr (.inl (vf_upd ((seg L (cb L (t : Int)) i).foldl actC ce) e9.2.1 (heldF (chg (((seg L (cb L (t : Int)) i).foldl actC ce) e9.2.1) e9.2.2.1 e9.2.2.2))))))), ((o 6), .inr (1, [.ref (o 7), .ref (o 8), .ref (o 9), .ref (o 10), .int (nI L.length)])), ((o 7), .inl (cI, 512, .inl f1)), ((o 8), .inl (cI, 512, .inl f2)), ((o 9), .inl (cI, 512, .inl f3)), ((o 10), .inl (cF, 512, .inr (.inr (.inl f4))))]) H := hP
      have hD : va_D A ([((o 1), .inl (cF, n, .inr (.inr (.inl (vf_upd ((seg L (cb L (t : Int)) i).foldl actC ce) e9.2.1 (heldF (chg (((seg L (cb L (t : Int)) i).foldl actC ce) e9.2.1) e9.2.2.1 e9.2.2.2))))))), ((o 6), .inr (1, [.ref (o 7), .ref (o 8), .ref (o 9), .ref (o 10), .int (nI L.length)])), ((o 7), .inl (cI, 512, .inl f1)), ((o 8), .inl (cI, 512, .inl f2)), ((o 9), .inl (cI, 512, .inl f3)), ((o 10), .inl (cF, 512, .inr (.inr (.inl f4))))]) := hD
      refine lv_iinc (v := nI (i + 1)) (lv' := [(4, .int (nI (i + 1))), (5, .int (nI e9.2.1)), (3, .int (nI (cb L ((t : Int) + 1)))), (0, .ref (o 6)), (1, .int (nI t)), (2, .ref (o 1))]) hx hb dX1_putIn_60 hl (k := 1) rfl (nI_add _ 1) (by decide) rfl (fun ls hl => ?_)
      refine lv_goto (tgt := 17) hx hb dX1_putIn_63 (by decide) ?_
      refine ih (i + 1) (by omega) (by omega) H locs ls ?_ ?_ hS (lv_sub hl [0, 2, 3, 4, 5] rfl)
      · rw [hsg, List.foldl_append]; exact hP
      · rw [hsg, List.foldl_append]; exact hD
  refine loop ((cb L ((t : Int) + 1)) - (cb L (t : Int))) (cb L (t : Int)) (by omega) (Nat.le_refl _) s.heap [] ls ?_ ?_ hS hl
  · rw [seg_self]; exact hP
  · rw [seg_self]; exact hD

end X1b
