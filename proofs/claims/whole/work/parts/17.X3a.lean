/-! StateKeeper: what throws -/
section TH
variable {p : Program} {l : Launch} {e : Env} {R : Room} {s : State} {m : MethodId} {args : Array Value} {below : List Frame} {meth : Method} {c : Code} {H : Heap} {locs : List Loc} {cells slots : Nat} {Q : State → Prop}
variable {D : va_G} {cI cF cQ : ClassId} {aT : Nat} {A : Nat → Prop} {cc : ByteArray} {nL mc ms pc is : Nat} {Ts : List Cond} {ls : Array Slot} {lv : List (Nat × Value)} {rest : List Value} {w : va_W} {XE' : String → Prop} {Qc : Array Value → State → Outcome → State → Prop} {text : String}
set_option maxRecDepth 100000 in
theorem lx_hnoI : ∀ v ∈ (vx_atS RX3 130 eI lxN).filter (fun v => !goodWord v), v ∈ Cond.castable eI eI :: am_d.map Cond.declares := by decide +kernel
set_option maxRecDepth 100000 in
theorem lx_hgoodI : ∀ v ∈ Cond.classLink RX3 126 eI :: Cond.initialized eI :: vx_atS RX3 130 eI lxN, vx_ot v = true := by decide +kernel
theorem lx_thI (hstr : (is, text) ∈ am_str) (hC : cx p l m c s args A D cI cF cQ aT cc nL Ts RX3) (hx : p.tables.exec = Jvm.exec) (hb : c.code = cc) (htab : ∀ x ∈ c.exceptionTable.toList, False) (hlk : meth.locks = false) (hl : lv_has ls nL lv) (hP : va_P D vwCl w H) (hS : va_S A s.heap H locs)
    (hk : (Cond.classLink RX3 126 eI).before args s = true) (hini : (Cond.initialized eI).before args s = true) (hat : ∀ v ∈ (vx_atS RX3 130 eI lxN).filter goodWord, v ∈ Ts)
    (d0 : decode cc pc = .ok (.new 126, 3)) (d3 : decode cc (pc + 3) = .ok (.dup, 1)) (d4 : decode cc (pc + 4) = .ok (.ldc is, 2)) (d6 : decode cc (pc + 6) = .ok (.invokespecial 130, 3)) (d9 : decode cc (pc + 9) = .ok (.athrow, 1))
    (hRf : 5 < R.frames) (hRl : (rest.map fun v => v.category).sum + 82 ≤ R.locals) (hRc : cells + 1 ≤ R.cells) (hRs : slots + 6 ≤ R.slots) (hXE : XE' eI) (hc : cells + 1 ≤ mc) (hs : slots + 6 ≤ ms) :
    W p l e R s m args below meth c H locs cells slots (vx_MQ below Qc (xW D w XE' A) args s mc ms A) (F0 m pc ls rest) :=
  lx_throw (by decide) hstr hC hx hb htab hlk hl hP hS hk hini hat lx_hnoI (by decide +kernel) lx_hgoodI d0 d3 d4 d6 d9 hRf hRl hRc hRs hXE hc hs
set_option maxRecDepth 100000 in
theorem lx_hnoA : ∀ v ∈ (vx_atS RX3 45 eA lxN).filter (fun v => !goodWord v), v ∈ Cond.castable eA eA :: am_d.map Cond.declares := by decide +kernel
set_option maxRecDepth 100000 in
theorem lx_hgoodA : ∀ v ∈ Cond.classLink RX3 41 eA :: Cond.initialized eA :: vx_atS RX3 45 eA lxN, vx_ot v = true := by decide +kernel
theorem lx_thA (hstr : (is, text) ∈ am_str) (hC : cx p l m c s args A D cI cF cQ aT cc nL Ts RX3) (hx : p.tables.exec = Jvm.exec) (hb : c.code = cc) (htab : ∀ x ∈ c.exceptionTable.toList, False) (hlk : meth.locks = false) (hl : lv_has ls nL lv) (hP : va_P D vwCl w H) (hS : va_S A s.heap H locs)
    (hk : (Cond.classLink RX3 41 eA).before args s = true) (hini : (Cond.initialized eA).before args s = true) (hat : ∀ v ∈ (vx_atS RX3 45 eA lxN).filter goodWord, v ∈ Ts)
    (d0 : decode cc pc = .ok (.new 41, 3)) (d3 : decode cc (pc + 3) = .ok (.dup, 1)) (d4 : decode cc (pc + 4) = .ok (.ldc is, 2)) (d6 : decode cc (pc + 6) = .ok (.invokespecial 45, 3)) (d9 : decode cc (pc + 9) = .ok (.athrow, 1))
    (hRf : 5 < R.frames) (hRl : (rest.map fun v => v.category).sum + 82 ≤ R.locals) (hRc : cells + 1 ≤ R.cells) (hRs : slots + 6 ≤ R.slots) (hXE : XE' eA) (hc : cells + 1 ≤ mc) (hs : slots + 6 ≤ ms) :
    W p l e R s m args below meth c H locs cells slots (vx_MQ below Qc (xW D w XE' A) args s mc ms A) (F0 m pc ls rest) :=
  lx_throw (by decide) hstr hC hx hb htab hlk hl hP hS hk hini hat lx_hnoA (by decide +kernel) lx_hgoodA d0 d3 d4 d6 d9 hRf hRl hRc hRs hXE hc hs
set_option maxRecDepth 100000 in
theorem lx_hnoS : ∀ v ∈ (vx_atS RX3 56 eS lxN).filter (fun v => !goodWord v), v ∈ Cond.castable eS eS :: am_d.map Cond.declares := by decide +kernel
set_option maxRecDepth 100000 in
theorem lx_hgoodS : ∀ v ∈ Cond.classLink RX3 52 eS :: Cond.initialized eS :: vx_atS RX3 56 eS lxN, vx_ot v = true := by decide +kernel
theorem lx_thS (hstr : (is, text) ∈ am_str) (hC : cx p l m c s args A D cI cF cQ aT cc nL Ts RX3) (hx : p.tables.exec = Jvm.exec) (hb : c.code = cc) (htab : ∀ x ∈ c.exceptionTable.toList, False) (hlk : meth.locks = false) (hl : lv_has ls nL lv) (hP : va_P D vwCl w H) (hS : va_S A s.heap H locs)
    (hk : (Cond.classLink RX3 52 eS).before args s = true) (hini : (Cond.initialized eS).before args s = true) (hat : ∀ v ∈ (vx_atS RX3 56 eS lxN).filter goodWord, v ∈ Ts)
    (d0 : decode cc pc = .ok (.new 52, 3)) (d3 : decode cc (pc + 3) = .ok (.dup, 1)) (d4 : decode cc (pc + 4) = .ok (.ldc is, 2)) (d6 : decode cc (pc + 6) = .ok (.invokespecial 56, 3)) (d9 : decode cc (pc + 9) = .ok (.athrow, 1))
    (hRf : 5 < R.frames) (hRl : (rest.map fun v => v.category).sum + 82 ≤ R.locals) (hRc : cells + 1 ≤ R.cells) (hRs : slots + 6 ≤ R.slots) (hXE : XE' eS) (hc : cells + 1 ≤ mc) (hs : slots + 6 ≤ ms) :
    W p l e R s m args below meth c H locs cells slots (vx_MQ below Qc (xW D w XE' A) args s mc ms A) (F0 m pc ls rest) :=
  lx_throw (by decide) hstr hC hx hb htab hlk hl hP hS hk hini hat lx_hnoS (by decide +kernel) lx_hgoodS d0 d3 d4 d6 d9 hRf hRl hRc hRs hXE hc hs
end TH
section X3a
variable {l : Launch} {D : va_G} {cI cF cQ : ClassId} {aT sz : Nat} {o : Nat → Nat} {n ev : Nat} {R : List dI} {x : St} {w : va_W}
set_option maxRecDepth 100000 in
set_option maxHeartbeats 4000000 in
/-- needCell(i) -/
theorem c_X3_needCell {z : Int32} (hw : WC cI cF cQ o n ev R x w) (hn : n ≤ 256) : vx_Met l yX3_needCell wsX3_needCell (rmk 6 1 6) (pcW l D cI cF cQ aT [.ref (o 0), .int z] w sz) (va_Qv (fun (w1 : va_W) => w1 = w ∧ (0 ≤ z.toInt ∧ z.toInt < (n : Int))) (fun w1 t => va_P D vwCl w1 t.heap) (va_A w sz)) (xW D w (fun E => E = eI ∧ ¬ (0 ≤ z.toInt ∧ z.toInt < (n : Int))) (va_A w sz)) 1 6 (va_A w sz) := by
  obtain ⟨wD, wR, wS, hWD, hWR, hWS, rfl⟩ := hw
  refine lz_ofX (Qf := fun A => va_Qv (fun (w1 : va_W) => w1 = (skW cF o n ev x wD wR wS) ∧ (0 ≤ z.toInt ∧ z.toInt < (n : Int))) (fun w1 t => va_P D vwCl w1 t.heap) A) (XF := fun A => xW D (skW cF o n ev x wD wR wS) (fun E => E = eI ∧ ¬ (0 ≤ z.toInt ∧ z.toInt < (n : Int))) A) (cc := cX3_needCell) (maxL := 2) (ret := none) (by decide) rfl (Nat.le_of_ble_eq_true rfl) ?_
  intro p e s m below meth c A hAe hsz htab hx hb hr hlk hC hP hD hS ls hl
  clear hAe
  have hts := hC.1.2.2.2.2
  have hown : s.vm.findClass RX3 = some m.cls := hC.1.2.2.2.1
  have hml := hC.1.2.2.1
  have hA := hC.2.1
  have hK := hC.2.2.2.1
  have hnm := hC.2.2.2.2.1
  have hnf := hC.2.2.2.2.2.1
  have hiX3 : ∀ w ∈ u_ws RX3 TX3 7, w ∈ wsX3_needCell := fun _ h => List.mem_cons_of_mem _ (List.mem_append_left _ (List.mem_append_right _ h))
  have hl : lv_has ls 2 [(0, .ref (o 0)), (1, .int z)] := hl
  refine lv_iload_n hx hb dX3_needCell_0 rfl (lv_at hl 1 rfl) ?_
  refine lv_if_lt (tgt := 13) hx hb dX3_needCell_1 (by decide) (fun c_1 => ?_) (fun c_1 => ?_)
  · exact lx_thI (text := "no such cell") (is := 183) (by decide) hC hx hb htab hlk hl hP hS (hts (.classLink RX3 126 "java/lang/IndexOutOfBoundsException") (List.mem_of_getElem? (i := 1) rfl)) (hts (.initialized "java/lang/IndexOutOfBoundsException") (List.mem_of_getElem? (i := 2) rfl)) (fun _ h9 => List.mem_cons_of_mem _ (List.mem_append_right _ h9)) dX3_needCell_13 dX3_needCell_16 dX3_needCell_17 dX3_needCell_19 dX3_needCell_22 (Nat.le_of_ble_eq_true rfl) (Nat.le_of_ble_eq_true rfl) (Nat.le_of_ble_eq_true rfl) (Nat.le_of_ble_eq_true rfl) ⟨rfl, fun q => absurd (iz_lt0.mp c_1) (by omega)⟩ (Nat.le_of_ble_eq_true rfl) (Nat.le_of_ble_eq_true rfl)
  · have h0 : 0 ≤ z.toInt := by have := mt iz_lt0.mpr c_1; omega
    refine lv_iload_n hx hb dX3_needCell_4 rfl (lv_at hl 1 rfl) ?_
    refine lv_aload_n hx hb dX3_needCell_5 rfl (lv_at hl 0 rfl) ?_
    refine va_get (D := D) (ci := 3) (v := .ref (o 1)) (C := RX3) (T := TX3) (N := 7) hx hb hts hiX3 hown hK hP 0 rfl rfl 0 (by decide) (hts (.fieldLink RX3 9 "StateKeeper" "cells" "[F") (List.mem_of_getElem? (i := 3) rfl)) (fun _ h9 => h9) rfl dX3_needCell_6 ?_
    refine va_alen (v := nI n) hx hb hK hP 1 0 rfl rfl rfl dX3_needCell_9 ?_
    refine lv_icmp_lt (tgt := 23) hx hb dX3_needCell_10 (by decide) (fun c_2 => ?_) (fun c_2 => ?_)
    · refine vx_ret (W.widen (k := 1) (n := 6) (Nat.le_of_ble_eq_true rfl) (Nat.le_of_ble_eq_true rfl) ?_)
      exact W.vret hx hb hr (fun t9 ht9 _ => ⟨⟨(((o 0), .inr (3, [.ref (o 1), .ref (o 2), .ref (o 6), .ref (o 11), .int (nI (sT x)), .int (nI ev), .int (sd x)])) :: ((o 1), .inl (cF, n, .inr (.inr (.inl (sc x))))) :: (wD ++ (wR ++ wS))), rfl, ⟨rfl, h0, (iz_lt_r (by omega)).mp c_2⟩, by show va_P D vwCl _ t9.heap; rw [ht9]; exact hP⟩, hS.F ht9⟩) hS.2.2 dX3_needCell_23
    · exact lx_thI (text := "no such cell") (is := 183) (by decide) hC hx hb htab hlk hl hP hS (hts (.classLink RX3 126 "java/lang/IndexOutOfBoundsException") (List.mem_of_getElem? (i := 1) rfl)) (hts (.initialized "java/lang/IndexOutOfBoundsException") (List.mem_of_getElem? (i := 2) rfl)) (fun _ h9 => List.mem_cons_of_mem _ (List.mem_append_right _ h9)) dX3_needCell_13 dX3_needCell_16 dX3_needCell_17 dX3_needCell_19 dX3_needCell_22 (Nat.le_of_ble_eq_true rfl) (Nat.le_of_ble_eq_true rfl) (Nat.le_of_ble_eq_true rfl) (Nat.le_of_ble_eq_true rfl) ⟨rfl, fun q => c_2 ((iz_lt_r (by omega)).mpr q.2)⟩ (Nat.le_of_ble_eq_true rfl) (Nat.le_of_ble_eq_true rfl)

theorem il_0 : (lN 0).toInt = 0 := by decide
theorem il_last {u b : Int32} {k : Nat} (h0 : 1 ≤ k) (h1 : k ≤ 256) : (u.toInt64 + ((nI k).toInt64 - lN 1) * b.toInt64).toInt = u.toInt + ((k : Int) - 1) * b.toInt := by
  have e1 : (nI k).toInt64.toInt = (k : Int) := by rw [il_toInt, nI_toInt (by omega)]
  have e2 : (lN 1).toInt = 1 := by decide
  have hb := iz_max b
  have hu := iz_max u
  have hm1 : ((k : Int) - 1) * b.toInt ≤ ((k : Int) - 1) * 2147483648 := Int.mul_le_mul_of_nonneg_left (by omega) (by omega)
  have hm2 : ((k : Int) - 1) * (-2147483648) ≤ ((k : Int) - 1) * b.toInt := Int.mul_le_mul_of_nonneg_left (by omega) (by omega)
  have f1 : ((nI k).toInt64 - lN 1).toInt = (k : Int) - 1 := by
    rw [Int64.toInt_sub, e1, e2]
    exact Int.bmod_eq_of_le (by omega) (by omega)
  have f2 : (((nI k).toInt64 - lN 1) * b.toInt64).toInt = ((k : Int) - 1) * b.toInt := by
    rw [Int64.toInt_mul, f1, il_toInt]
    exact Int.bmod_eq_of_le (by omega) (by omega)
  rw [Int64.toInt_add, il_toInt, f2]
  exact Int.bmod_eq_of_le (by omega) (by omega)
set_option maxRecDepth 100000 in
set_option maxHeartbeats 4000000 in
/-- needLastCell(from, by, count) -/
theorem c_X3_needLastCell {u b : Int32} {k : Nat} (hk0 : 1 ≤ k) (hk : k ≤ 256) (hw : WC cI cF cQ o n ev R x w) (hn : n ≤ 256) : vx_Met l yX3_needLastCell wsX3_needLastCell (rmk 6 1 6) (pcW l D cI cF cQ aT [.ref (o 0), .int u, .int b, .int (nI k)] w sz) (va_Qv (fun (w1 : va_W) => w1 = w ∧ (0 ≤ u.toInt + ((k : Int) - 1) * b.toInt ∧ u.toInt + ((k : Int) - 1) * b.toInt < (n : Int))) (fun w1 t => va_P D vwCl w1 t.heap) (va_A w sz)) (xW D w (fun E => E = eI ∧ ¬ (0 ≤ u.toInt + ((k : Int) - 1) * b.toInt ∧ u.toInt + ((k : Int) - 1) * b.toInt < (n : Int))) (va_A w sz)) 1 6 (va_A w sz) := by
  obtain ⟨wD, wR, wS, hWD, hWR, hWS, rfl⟩ := hw
  refine lz_ofX (Qf := fun A => va_Qv (fun (w1 : va_W) => w1 = (skW cF o n ev x wD wR wS) ∧ (0 ≤ u.toInt + ((k : Int) - 1) * b.toInt ∧ u.toInt + ((k : Int) - 1) * b.toInt < (n : Int))) (fun w1 t => va_P D vwCl w1 t.heap) A) (XF := fun A => xW D (skW cF o n ev x wD wR wS) (fun E => E = eI ∧ ¬ (0 ≤ u.toInt + ((k : Int) - 1) * b.toInt ∧ u.toInt + ((k : Int) - 1) * b.toInt < (n : Int))) A) (cc := cX3_needLastCell) (maxL := 6) (ret := none) (by decide) rfl (Nat.le_of_ble_eq_true rfl) ?_
  intro p e s m below meth c A hAe hsz htab hx hb hr hlk hC hP hD hS ls hl
  clear hAe
  have hts := hC.1.2.2.2.2
  have hown : s.vm.findClass RX3 = some m.cls := hC.1.2.2.2.1
  have hml := hC.1.2.2.1
  have hA := hC.2.1
  have hK := hC.2.2.2.1
  have hnm := hC.2.2.2.2.1
  have hnf := hC.2.2.2.2.2.1
  have hiX3 : ∀ w ∈ u_ws RX3 TX3 7, w ∈ wsX3_needLastCell := fun _ h => List.mem_cons_of_mem _ (List.mem_append_left _ (List.mem_append_right _ h))
  have hl : lv_has ls 6 [(0, .ref (o 0)), (1, .int u), (2, .int b), (3, .int (nI k))] := hl
  have hlast : (u.toInt64 + ((nI k).toInt64 - lN 1) * b.toInt64).toInt = u.toInt + ((k : Int) - 1) * b.toInt := il_last hk0 hk
  refine lv_iload_n hx hb dX3_needLastCell_0 rfl (lv_at hl 1 rfl) ?_
  refine lv_i2l (v := u.toInt64) hx hb dX3_needLastCell_1 rfl ?_
  refine lv_iload_n hx hb dX3_needLastCell_2 rfl (lv_at hl 3 rfl) ?_
  refine lv_i2l (v := (nI k).toInt64) hx hb dX3_needLastCell_3 rfl ?_
  refine lv_lconst (v := lN 1) hx hb dX3_needLastCell_4 (by decide) ?_
  refine lv_lsub hx hb dX3_needLastCell_5 ?_
  refine lv_iload_n hx hb dX3_needLastCell_6 rfl (lv_at hl 2 rfl) ?_
  refine lv_i2l (v := b.toInt64) hx hb dX3_needLastCell_7 rfl ?_
  refine lv_lmul hx hb dX3_needLastCell_8 ?_
  refine lv_ladd hx hb dX3_needLastCell_9 ?_
  refine lv_lstore (lv' := [(4, .long (u.toInt64 + ((((nI k).toInt64) - (lN 1)) * b.toInt64))), (0, .ref (o 0)), (1, .int u), (2, .int b), (3, .int (nI k))]) hx hb dX3_needLastCell_10 hl (by decide) rfl (fun ls hl => ?_)
  refine lv_lload hx hb dX3_needLastCell_12 (lv_at hl 0 rfl) ?_
  refine lv_lconst (v := lN 0) hx hb dX3_needLastCell_14 (by decide) ?_
  refine W.lcmp hx hb dX3_needLastCell_15 ?_
  refine lv_if_lt (tgt := 31) hx hb dX3_needLastCell_16 (by decide) (fun c_1 => ?_) (fun c_1 => ?_)
  · exact lx_thI (text := "one of the others is no cell") (is := 185) (by decide) hC hx hb htab hlk hl hP hS (hts (.classLink RX3 126 "java/lang/IndexOutOfBoundsException") (List.mem_of_getElem? (i := 1) rfl)) (hts (.initialized "java/lang/IndexOutOfBoundsException") (List.mem_of_getElem? (i := 2) rfl)) (fun _ h9 => List.mem_cons_of_mem _ (List.mem_append_right _ h9)) dX3_needLastCell_31 dX3_needLastCell_34 dX3_needLastCell_35 dX3_needLastCell_37 dX3_needLastCell_40 (Nat.le_of_ble_eq_true rfl) (Nat.le_of_ble_eq_true rfl) (Nat.le_of_ble_eq_true rfl) (Nat.le_of_ble_eq_true rfl) ⟨rfl, fun q => absurd ((il_lt _ _).mp c_1) (by rw [hlast, il_0]; omega)⟩ (Nat.le_of_ble_eq_true rfl) (Nat.le_of_ble_eq_true rfl)
  · have h0 : ¬ u.toInt + ((k : Int) - 1) * b.toInt < 0 := fun q => c_1 ((il_lt _ _).mpr (by rw [hlast, il_0]; exact q))
    refine lv_lload hx hb dX3_needLastCell_19 (lv_at hl 0 rfl) ?_
    refine lv_aload_n hx hb dX3_needLastCell_21 rfl (lv_at hl 1 rfl) ?_
    refine va_get (D := D) (ci := 3) (v := .ref (o 1)) (C := RX3) (T := TX3) (N := 7) hx hb hts hiX3 hown hK hP 0 rfl rfl 0 (by decide) (hts (.fieldLink RX3 9 "StateKeeper" "cells" "[F") (List.mem_of_getElem? (i := 3) rfl)) (fun _ h9 => h9) rfl dX3_needLastCell_22 ?_
    refine va_alen (v := nI n) hx hb hK hP 1 0 rfl rfl rfl dX3_needLastCell_25 ?_
    refine lv_i2l (v := (nI n).toInt64) hx hb dX3_needLastCell_26 rfl ?_
    refine W.lcmp hx hb dX3_needLastCell_27 ?_
    refine lv_if_lt (tgt := 41) hx hb dX3_needLastCell_28 (by decide) (fun c_2 => ?_) (fun c_2 => ?_)
    · have h1 := (il_lt _ _).mp c_2
      rw [hlast, il_toInt, nI_toInt (by omega)] at h1
      refine vx_ret (W.widen (k := 1) (n := 6) (Nat.le_of_ble_eq_true rfl) (Nat.le_of_ble_eq_true rfl) ?_)
      exact W.vret hx hb hr (fun t9 ht9 _ => ⟨⟨(((o 0), .inr (3, [.ref (o 1), .ref (o 2), .ref (o 6), .ref (o 11), .int (nI (sT x)), .int (nI ev), .int (sd x)])) :: ((o 1), .inl (cF, n, .inr (.inr (.inl (sc x))))) :: (wD ++ (wR ++ wS))), rfl, ⟨rfl, by omega, h1⟩, by show va_P D vwCl _ t9.heap; rw [ht9]; exact hP⟩, hS.F ht9⟩) hS.2.2 dX3_needLastCell_41
    · exact lx_thI (text := "one of the others is no cell") (is := 185) (by decide) hC hx hb htab hlk hl hP hS (hts (.classLink RX3 126 "java/lang/IndexOutOfBoundsException") (List.mem_of_getElem? (i := 1) rfl)) (hts (.initialized "java/lang/IndexOutOfBoundsException") (List.mem_of_getElem? (i := 2) rfl)) (fun _ h9 => List.mem_cons_of_mem _ (List.mem_append_right _ h9)) dX3_needLastCell_31 dX3_needLastCell_34 dX3_needLastCell_35 dX3_needLastCell_37 dX3_needLastCell_40 (Nat.le_of_ble_eq_true rfl) (Nat.le_of_ble_eq_true rfl) (Nat.le_of_ble_eq_true rfl) (Nat.le_of_ble_eq_true rfl) ⟨rfl, fun q => c_2 ((il_lt _ _).mpr (by rw [hlast, il_toInt, nI_toInt (by omega)]; exact q.2))⟩ (Nat.le_of_ble_eq_true rfl) (Nat.le_of_ble_eq_true rfl)

set_option maxRecDepth 100000 in
set_option maxHeartbeats 4000000 in
/-- needWayAndNumber(way, v) -/
theorem c_X3_needWay {q : Int32} {v : UInt32} : vx_Met l yX3_needWayAndNumber wsX3_needWayAndNumber (rmk 6 1 6) (pcW l D cI cF cQ aT [.int q, .float v] w sz) (va_Qv (fun (w1 : va_W) => w1 = w ∧ ((0 ≤ q.toInt ∧ q.toInt ≤ 2) ∧ inF cN cP v)) (fun w1 t => va_P D vwCl w1 t.heap) (va_A w sz)) (xW D w (fun E => E = eA ∧ ¬ ((0 ≤ q.toInt ∧ q.toInt ≤ 2) ∧ inF cN cP v)) (va_A w sz)) 1 6 (va_A w sz) := by
  refine lz_ofX (Qf := fun A => va_Qv (fun (w1 : va_W) => w1 = w ∧ ((0 ≤ q.toInt ∧ q.toInt ≤ 2) ∧ inF cN cP v)) (fun w1 t => va_P D vwCl w1 t.heap) A) (XF := fun A => xW D w (fun E => E = eA ∧ ¬ ((0 ≤ q.toInt ∧ q.toInt ≤ 2) ∧ inF cN cP v)) A) (cc := cX3_needWayAndNumber) (maxL := 2) (ret := none) (by decide) rfl (Nat.le_of_ble_eq_true rfl) ?_
  intro p e s m below meth c A hAe hsz htab hx hb hr hlk hC hP hD hS ls hl
  clear hAe
  have hts := hC.1.2.2.2.2
  have hown : s.vm.findClass RX3 = some m.cls := hC.1.2.2.2.1
  have hml := hC.1.2.2.1
  have hA := hC.2.1
  have hK := hC.2.2.2.1
  have hnm := hC.2.2.2.2.1
  have hnf := hC.2.2.2.2.2.1
  have hl : lv_has ls 2 [(0, .int q), (1, .float v)] := hl
  refine lv_iload_n hx hb dX3_needWayAndNumber_0 rfl (lv_at hl 0 rfl) ?_
  refine lv_if_lt (tgt := 9) hx hb dX3_needWayAndNumber_1 (by decide) (fun c_1 => ?_) (fun c_1 => ?_)
  · exact lx_thA (text := "way is not 0 .. 2") (is := 187) (by decide) hC hx hb htab hlk hl hP hS (hts (.classLink RX3 41 "java/lang/IllegalArgumentException") (List.mem_of_getElem? (i := 1) rfl)) (hts (.initialized "java/lang/IllegalArgumentException") (List.mem_of_getElem? (i := 2) rfl)) (fun _ h9 => List.mem_cons_of_mem _ (List.mem_append_right _ h9)) dX3_needWayAndNumber_9 dX3_needWayAndNumber_12 dX3_needWayAndNumber_13 dX3_needWayAndNumber_15 dX3_needWayAndNumber_18 (Nat.le_of_ble_eq_true rfl) (Nat.le_of_ble_eq_true rfl) (Nat.le_of_ble_eq_true rfl) (Nat.le_of_ble_eq_true rfl) ⟨rfl, fun q9 => absurd (iz_lt0.mp c_1) (by omega)⟩ (Nat.le_of_ble_eq_true rfl) (Nat.le_of_ble_eq_true rfl)
  · have h0 : 0 ≤ q.toInt := by have := mt iz_lt0.mpr c_1; omega
    refine lv_iload_n hx hb dX3_needWayAndNumber_4 rfl (lv_at hl 0 rfl) ?_
    refine lv_iconst (v := nI 2) hx hb dX3_needWayAndNumber_5 (by decide) ?_
    refine lv_icmp_le (tgt := 19) hx hb dX3_needWayAndNumber_6 (by decide) (fun c_2 => ?_) (fun c_2 => ?_)
    · have h1 : q.toInt ≤ 2 := (iz_le_r (a := 2) (by omega)).mp c_2
      refine lv_fload_n hx hb dX3_needWayAndNumber_19 rfl (lv_at hl 1 rfl) ?_
      refine lv_ldcf (v := cN) hx hb hown (hts (.constantFloat RX3 189 (3347054592)) (List.mem_of_getElem? (i := 3) rfl)) dX3_needWayAndNumber_20 ?_
      refine lv_fcmp hx hb dX3_needWayAndNumber_22 ?_
      refine lv_if_lt (tgt := 33) hx hb dX3_needWayAndNumber_23 (by decide) (fun c_3 => ?_) (fun c_3 => ?_)
      · exact lx_thA (text := "v is not -65536 .. 65536") (is := 191) (by decide) hC hx hb htab hlk hl hP hS (hts (.classLink RX3 41 "java/lang/IllegalArgumentException") (List.mem_of_getElem? (i := 1) rfl)) (hts (.initialized "java/lang/IllegalArgumentException") (List.mem_of_getElem? (i := 2) rfl)) (fun _ h9 => List.mem_cons_of_mem _ (List.mem_append_right _ h9)) dX3_needWayAndNumber_33 dX3_needWayAndNumber_36 dX3_needWayAndNumber_37 dX3_needWayAndNumber_39 dX3_needWayAndNumber_42 (Nat.le_of_ble_eq_true rfl) (Nat.le_of_ble_eq_true rfl) (Nat.le_of_ble_eq_true rfl) (Nat.le_of_ble_eq_true rfl) ⟨rfl, fun q9 => (fl_ltl _ _).mp c_3 q9.2.1⟩ (Nat.le_of_ble_eq_true rfl) (Nat.le_of_ble_eq_true rfl)
      · have h3 := Decidable.not_not.mp (mt (fl_ltl _ _).mpr c_3)
        refine lv_fload_n hx hb dX3_needWayAndNumber_26 rfl (lv_at hl 1 rfl) ?_
        refine lv_ldcf (v := cP) hx hb hown (hts (.constantFloat RX3 190 (1199570944)) (List.mem_of_getElem? (i := 4) rfl)) dX3_needWayAndNumber_27 ?_
        refine lv_fcmp hx hb dX3_needWayAndNumber_29 ?_
        refine lv_if_le (tgt := 43) hx hb dX3_needWayAndNumber_30 (by decide) (fun c_4 => ?_) (fun c_4 => ?_)
        · refine vx_ret (W.widen (k := 1) (n := 6) (Nat.le_of_ble_eq_true rfl) (Nat.le_of_ble_eq_true rfl) ?_)
          exact W.vret hx hb hr (fun t9 ht9 _ => ⟨⟨w, rfl, ⟨rfl, ⟨h0, h1⟩, h3, (fl_leg _ _).mp c_4⟩, by show va_P D vwCl _ t9.heap; rw [ht9]; exact hP⟩, hS.F ht9⟩) hS.2.2 dX3_needWayAndNumber_43
        · exact lx_thA (text := "v is not -65536 .. 65536") (is := 191) (by decide) hC hx hb htab hlk hl hP hS (hts (.classLink RX3 41 "java/lang/IllegalArgumentException") (List.mem_of_getElem? (i := 1) rfl)) (hts (.initialized "java/lang/IllegalArgumentException") (List.mem_of_getElem? (i := 2) rfl)) (fun _ h9 => List.mem_cons_of_mem _ (List.mem_append_right _ h9)) dX3_needWayAndNumber_33 dX3_needWayAndNumber_36 dX3_needWayAndNumber_37 dX3_needWayAndNumber_39 dX3_needWayAndNumber_42 (Nat.le_of_ble_eq_true rfl) (Nat.le_of_ble_eq_true rfl) (Nat.le_of_ble_eq_true rfl) (Nat.le_of_ble_eq_true rfl) ⟨rfl, fun q9 => c_4 ((fl_leg _ _).mpr q9.2.2)⟩ (Nat.le_of_ble_eq_true rfl) (Nat.le_of_ble_eq_true rfl)
    · exact lx_thA (text := "way is not 0 .. 2") (is := 187) (by decide) hC hx hb htab hlk hl hP hS (hts (.classLink RX3 41 "java/lang/IllegalArgumentException") (List.mem_of_getElem? (i := 1) rfl)) (hts (.initialized "java/lang/IllegalArgumentException") (List.mem_of_getElem? (i := 2) rfl)) (fun _ h9 => List.mem_cons_of_mem _ (List.mem_append_right _ h9)) dX3_needWayAndNumber_9 dX3_needWayAndNumber_12 dX3_needWayAndNumber_13 dX3_needWayAndNumber_15 dX3_needWayAndNumber_18 (Nat.le_of_ble_eq_true rfl) (Nat.le_of_ble_eq_true rfl) (Nat.le_of_ble_eq_true rfl) (Nat.le_of_ble_eq_true rfl) ⟨rfl, fun q9 => c_2 ((iz_le_r (by omega)).mpr q9.1.2)⟩ (Nat.le_of_ble_eq_true rfl) (Nat.le_of_ble_eq_true rfl)

theorem nI_le_iff {a b : Nat} (ha : a < 2 ^ 31) (hb : b < 2 ^ 31) : nI a ≤ nI b ↔ a ≤ b := by rw [iz_le_r hb, nI_toInt ha]; omega
theorem nI_lt_iff {a b : Nat} (ha : a < 2 ^ 31) (hb : b < 2 ^ 31) : nI a < nI b ↔ a < b := by rw [iz_lt_r hb, nI_toInt ha]; omega
set_option maxRecDepth 100000 in
set_option maxHeartbeats 4000000 in
/-- needRoom(more) -/
theorem c_X3_needRoom {k : Nat} (hk : k ≤ 256) (hlen : (sL x).length ≤ 512) (hw : WC cI cF cQ o n ev R x w) : vx_Met l yX3_needRoom wsX3_needRoom (rmk 6 1 6) (pcW l D cI cF cQ aT [.ref (o 0), .int (nI k)] w sz) (va_Qv (fun (w1 : va_W) => w1 = w ∧ k + (sL x).length ≤ 512) (fun w1 t => va_P D vwCl w1 t.heap) (va_A w sz)) (xW D w (fun E => E = eS ∧ ¬ k + (sL x).length ≤ 512) (va_A w sz)) 1 6 (va_A w sz) := by
  obtain ⟨wD, wR, wS, hWD, hWR, hWS, rfl⟩ := hw
  refine lz_ofX (Qf := fun A => va_Qv (fun (w1 : va_W) => w1 = (skW cF o n ev x wD wR wS) ∧ k + (sL x).length ≤ 512) (fun w1 t => va_P D vwCl w1 t.heap) A) (XF := fun A => xW D (skW cF o n ev x wD wR wS) (fun E => E = eS ∧ ¬ k + (sL x).length ≤ 512) A) (cc := cX3_needRoom) (maxL := 2) (ret := none) (by decide) rfl (Nat.le_of_ble_eq_true rfl) ?_
  intro p e s m below meth c A hAe hsz htab hx hb hr hlk hC hP hD hS ls hl
  clear hAe
  have hts := hC.1.2.2.2.2
  have hown : s.vm.findClass RX3 = some m.cls := hC.1.2.2.2.1
  have hml := hC.1.2.2.1
  have hA := hC.2.1
  have hK := hC.2.2.2.1
  have hnm := hC.2.2.2.2.1
  have hnf := hC.2.2.2.2.2.1
  have hiX3 : ∀ w ∈ u_ws RX3 TX3 7, w ∈ wsX3_needRoom := fun _ h => List.mem_cons_of_mem _ (List.mem_append_left _ (List.mem_append_left _ (List.mem_append_right _ h)))
  have hiX1 : ∀ w ∈ u_ws RX1 TX1 5, w ∈ wsX3_needRoom := fun _ h => List.mem_cons_of_mem _ (List.mem_append_left _ (List.mem_append_right _ h))
  have hl : lv_has ls 2 [(0, .ref (o 0)), (1, .int (nI k))] := hl
  obtain ⟨g1, g2, g3, g4, hrec, hwR⟩ := hWR
  have hPr : va_P D vwCl (recW cI cF o (sL x).length g1 g2 g3 g4) _ := hwR ▸ lz_cutP (sk_pR _ _ wD wR wS) hP
  refine lv_iload_n hx hb dX3_needRoom_0 rfl (lv_at hl 1 rfl) ?_
  refine lv_sipush (v := nI 512) hx hb dX3_needRoom_1 (by decide) ?_
  refine lv_aload_n hx hb dX3_needRoom_4 rfl (lv_at hl 0 rfl) ?_
  refine va_get (D := D) (ci := 3) (v := .ref (o 6)) (C := RX3) (T := TX3) (N := 7) hx hb hts hiX3 hown hK hP 0 rfl rfl 2 (by decide) (hts (.fieldLink RX3 23 "StateKeeper" "inputRecord" "LStateKeeper$InputRecord;") (List.mem_of_getElem? (i := 3) rfl)) (fun _ h9 => h9) rfl dX3_needRoom_5 ?_
  refine va_getN (D := D) (ci := 1) (v := .int (nI (sL x).length)) (C := RX1) (T := TX1) (N := 5) (host := "StateKeeper") hx hb hts hiX1 hown hK hPr 0 rfl rfl 4 (by decide) (va_Nw.use rfl (hnf (RX3, 60, RX1, "size", "I") (by decide))) (fun _ h9 => h9) rfl dX3_needRoom_8 ?_
  refine lv_isub hx hb dX3_needRoom_11 ?_
  refine lz_i (pk_sub hlen) ?_
  refine lv_icmp_le (tgt := 25) hx hb dX3_needRoom_12 (by decide) (fun c_1 => ?_) (fun c_1 => ?_)
  · refine vx_ret (W.widen (k := 1) (n := 6) (Nat.le_of_ble_eq_true rfl) (Nat.le_of_ble_eq_true rfl) ?_)
    exact W.vret hx hb hr (fun t9 ht9 _ => ⟨⟨(((o 0), .inr (3, [.ref (o 1), .ref (o 2), .ref (o 6), .ref (o 11), .int (nI (sT x)), .int (nI ev), .int (sd x)])) :: ((o 1), .inl (cF, n, .inr (.inr (.inl (sc x))))) :: (wD ++ (wR ++ wS))), rfl, ⟨rfl, by have := (nI_le_iff (by omega) (by omega)).mp c_1; omega⟩, by show va_P D vwCl _ t9.heap; rw [ht9]; exact hP⟩, hS.F ht9⟩) hS.2.2 dX3_needRoom_25
  · exact lx_thS (text := "more than 512 inputs would be in the record") (is := 193) (by decide) hC hx hb htab hlk hl hP hS (hts (.classLink RX3 52 "java/lang/IllegalStateException") (List.mem_of_getElem? (i := 1) rfl)) (hts (.initialized "java/lang/IllegalStateException") (List.mem_of_getElem? (i := 2) rfl)) (fun _ h9 => List.mem_cons_of_mem _ (List.mem_append_right _ h9)) dX3_needRoom_15 dX3_needRoom_18 dX3_needRoom_19 dX3_needRoom_21 dX3_needRoom_24 (Nat.le_of_ble_eq_true rfl) (Nat.le_of_ble_eq_true rfl) (Nat.le_of_ble_eq_true rfl) (Nat.le_of_ble_eq_true rfl) ⟨rfl, fun q => c_1 ((nI_le_iff (by omega) (by omega)).mpr (by omega))⟩ (Nat.le_of_ble_eq_true rfl) (Nat.le_of_ble_eq_true rfl)

set_option maxRecDepth 100000 in
set_option maxHeartbeats 4000000 in
/-- neededSnapshot(step) -/
theorem c_X3_neededSnapshot {z : Int32} (hS2 : sGood (sS x)) (hw : WC cI cF cQ o n ev R x w) : vx_Met l yX3_neededSnapshot wsX3_neededSnapshot (rmk 6 1 6) (pcW l D cI cF cQ aT [.ref (o 0), .int z] w sz) (va_Qi (fun (r : Int32) (w1 : va_W) => w1 = w ∧ ∃ j, plc (sS x) z.toInt = some j ∧ r = nI j) (fun w1 t => va_P D vwCl w1 t.heap) (va_A w sz)) (xW D w (fun E => E = eI ∧ plc (sS x) z.toInt = none) (va_A w sz)) 1 6 (va_A w sz) := by
  obtain ⟨wD, wR, wS, hWD, hWR, hWS, rfl⟩ := hw
  refine lz_ofX (Qf := fun A => va_Qi (fun (r : Int32) (w1 : va_W) => w1 = (skW cF o n ev x wD wR wS) ∧ ∃ j, plc (sS x) z.toInt = some j ∧ r = nI j) (fun w1 t => va_P D vwCl w1 t.heap) A) (XF := fun A => xW D (skW cF o n ev x wD wR wS) (fun E => E = eI ∧ plc (sS x) z.toInt = none) A) (cc := cX3_neededSnapshot) (maxL := 3) (ret := (some .int)) (by decide) rfl (Nat.le_of_ble_eq_true rfl) ?_
  intro p e s m below meth c A hAe hsz htab hx hb hr hlk hC hP hD hS ls hl
  clear hAe
  have hts := hC.1.2.2.2.2
  have hown : s.vm.findClass RX3 = some m.cls := hC.1.2.2.2.1
  have hml := hC.1.2.2.1
  have hA := hC.2.1
  have hK := hC.2.2.2.1
  have hnm := hC.2.2.2.2.1
  have hnf := hC.2.2.2.2.2.1
  have hiX3 : ∀ w ∈ u_ws RX3 TX3 7, w ∈ wsX3_neededSnapshot := fun _ h => List.mem_cons_of_mem _ (List.mem_append_left _ (List.mem_append_left _ (List.mem_append_right _ h)))
  have hl : lv_has ls 3 [(0, .ref (o 0)), (1, .int z)] := hl
  obtain ⟨a, f1, M, ha, hok, hwS⟩ := hWS
  have hPs : va_P D vwCl (snapW cI cF cQ o n a (sS x).length f1 M) _ := hwS ▸ lz_cutP (sk_pS _ _ wD wR wS) hP
  have hDs : va_D A (snapW cI cF cQ o n a (sS x).length f1 M) := hwS ▸ lz_cutD (sk_pS _ _ wD wR wS) hD
  refine lv_aload_n hx hb dX3_neededSnapshot_0 rfl (lv_at hl 0 rfl) ?_
  refine va_get (D := D) (ci := 3) (v := .ref (o 11)) (C := RX3) (T := TX3) (N := 7) hx hb hts hiX3 hown hK hP 0 rfl rfl 3 (by decide) (hts (.fieldLink RX3 32 "StateKeeper" "snapshots" "LStateKeeper$Snapshots;") (List.mem_of_getElem? (i := 3) rfl)) (fun _ h9 => h9) rfl dX3_neededSnapshot_1 ?_
  refine lv_iload_n hx hb dX3_neededSnapshot_4 rfl (lv_at hl 1 rfl) ?_
  refine vp_callSi (lz_runVN (C := RX2) (As := [.int z]) (rest := []) hC hS hl (c_X2_find ha hok hS2) ⟨va_cnB 1 hts gX3_neededSnapshot_X2_find_n195 rfl rfl rfl (hnm (RX3, 195, yX2_find) (by decide)) (hts (.initialized RX2) (List.mem_of_getElem? (i := 5) rfl)) (by decide +kernel) ⟨Nat.le_of_ble_eq_true rfl, Nat.le_of_ble_eq_true rfl⟩, (hts (.instanceMethod yX2_find) (List.mem_of_getElem? (i := 4) rfl)), (hts (.selects RX2 yX2_find yX2_find) (List.mem_of_getElem? (i := 6) rfl))⟩ hPs hDs (va_recv hK hPs (ci := 2) (q0 := 0) rfl rfl) rfl rfl (Nat.le_of_ble_eq_true rfl) dX3_neededSnapshot_5 ⟨Nat.le_of_ble_eq_true rfl, Nat.le_of_ble_eq_true rfl⟩).run (fun r_1 er_1 => ?_)
  subst er_1
  cases hpl : plc (sS x) z.toInt with
  | none =>
    refine lz_i (y := -1) (by rfl) ?_
    refine lv_istore_n (lv' := [(2, .int (-1)), (0, .ref (o 0)), (1, .int z)]) hx hb dX3_neededSnapshot_8 rfl hl (by decide) rfl (fun ls hl => ?_)
    refine lv_iload_n hx hb dX3_neededSnapshot_9 rfl (lv_at hl 0 rfl) ?_
    refine lv_iconst (v := -1) hx hb dX3_neededSnapshot_10 (by decide) ?_
    refine lv_icmp_ne (tgt := 24) hx hb dX3_neededSnapshot_11 (by decide) (fun c1 => absurd rfl c1) (fun c1 => ?_)
    exact lx_thI (text := "no snapshot of this step") (is := 198) (by decide) hC hx hb htab hlk hl hP hS (hts (.classLink RX3 126 "java/lang/IndexOutOfBoundsException") (List.mem_of_getElem? (i := 1) rfl)) (hts (.initialized "java/lang/IndexOutOfBoundsException") (List.mem_of_getElem? (i := 2) rfl)) (fun _ h9 => List.mem_cons_of_mem _ (List.mem_append_right _ h9)) dX3_neededSnapshot_14 dX3_neededSnapshot_17 dX3_neededSnapshot_18 dX3_neededSnapshot_20 dX3_neededSnapshot_23 (Nat.le_of_ble_eq_true rfl) (Nat.le_of_ble_eq_true rfl) (Nat.le_of_ble_eq_true rfl) (Nat.le_of_ble_eq_true rfl) ⟨rfl, rfl⟩ (Nat.le_of_ble_eq_true rfl) (Nat.le_of_ble_eq_true rfl)
  | some j =>
    obtain ⟨e9, he9, hez⟩ := plc_spec hpl
    have hjl : j < (sS x).length := (List.getElem?_eq_some_iff.mp he9).1
    have hlen := hS2.2.1
    refine lz_i (y := nI j) (by rfl) ?_
    refine lv_istore_n (lv' := [(2, .int (nI j)), (0, .ref (o 0)), (1, .int z)]) hx hb dX3_neededSnapshot_8 rfl hl (by decide) rfl (fun ls hl => ?_)
    refine lv_iload_n hx hb dX3_neededSnapshot_9 rfl (lv_at hl 0 rfl) ?_
    refine lv_iconst (v := -1) hx hb dX3_neededSnapshot_10 (by decide) ?_
    refine lv_icmp_ne (tgt := 24) hx hb dX3_neededSnapshot_11 (by decide) (fun c_2 => ?_) (fun c_2 => absurd c_2 (iz_m1 (by omega)))
    refine lv_iload_n hx hb dX3_neededSnapshot_24 rfl (lv_at hl 0 rfl) ?_
    refine vx_ret (W.widen (k := 1) (n := 6) (Nat.le_of_ble_eq_true rfl) (Nat.le_of_ble_eq_true rfl) ?_)
    exact W.iret hx hb hr (fun t9 ht9 _ => ⟨⟨_, (((o 0), .inr (3, [.ref (o 1), .ref (o 2), .ref (o 6), .ref (o 11), .int (nI (sT x)), .int (nI ev), .int (sd x)])) :: ((o 1), .inl (cF, n, .inr (.inr (.inl (sc x))))) :: (wD ++ (wR ++ wS))), rfl, ⟨rfl, j, rfl, rfl⟩, by show va_P D vwCl _ t9.heap; rw [ht9]; exact hP⟩, hS.F ht9⟩) hS.2.2 dX3_neededSnapshot_25

set_option maxRecDepth 100000 in
set_option maxHeartbeats 4000000 in
/-- neededPlace(step, k) -/
theorem c_X3_neededPlace {z q : Int32} (hs : srt (sL x)) (hL : rIn n (sL x)) (hw : WC cI cF cQ o n ev R x w) : vx_Met l yX3_neededPlace wsX3_neededPlace (rmk 6 1 6) (pcW l D cI cF cQ aT [.ref (o 0), .int z, .int q] w sz) (va_Qi (fun (r : Int32) (w1 : va_W) => w1 = w ∧ (0 ≤ q.toInt ∧ q.toInt < (cq (sL x) z.toInt : Int)) ∧ r = nI (cb (sL x) z.toInt + q.toInt.toNat)) (fun w1 t => va_P D vwCl w1 t.heap) (va_A w sz)) (xW D w (fun E => E = eI ∧ ¬ (0 ≤ q.toInt ∧ q.toInt < (cq (sL x) z.toInt : Int))) (va_A w sz)) 1 6 (va_A w sz) := by
  obtain ⟨wD, wR, wS, hWD, hWR, hWS, rfl⟩ := hw
  refine lz_ofX (Qf := fun A => va_Qi (fun (r : Int32) (w1 : va_W) => w1 = (skW cF o n ev x wD wR wS) ∧ (0 ≤ q.toInt ∧ q.toInt < (cq (sL x) z.toInt : Int)) ∧ r = nI (cb (sL x) z.toInt + q.toInt.toNat)) (fun w1 t => va_P D vwCl w1 t.heap) A) (XF := fun A => xW D (skW cF o n ev x wD wR wS) (fun E => E = eI ∧ ¬ (0 ≤ q.toInt ∧ q.toInt < (cq (sL x) z.toInt : Int))) A) (cc := cX3_neededPlace) (maxL := 3) (ret := (some .int)) (by decide) rfl (Nat.le_of_ble_eq_true rfl) ?_
  intro p e s m below meth c A hAe hsz htab hx hb hr hlk hC hP hD hS ls hl
  clear hAe
  have hts := hC.1.2.2.2.2
  have hown : s.vm.findClass RX3 = some m.cls := hC.1.2.2.2.1
  have hml := hC.1.2.2.1
  have hA := hC.2.1
  have hK := hC.2.2.2.1
  have hnm := hC.2.2.2.2.1
  have hnf := hC.2.2.2.2.2.1
  have hiX3 : ∀ w ∈ u_ws RX3 TX3 7, w ∈ wsX3_neededPlace := fun _ h => List.mem_cons_of_mem _ (List.mem_append_left _ (List.mem_append_left _ (List.mem_append_right _ h)))
  have hl : lv_has ls 3 [(0, .ref (o 0)), (1, .int z), (2, .int q)] := hl
  obtain ⟨g1, g2, g3, g4, hrec, hwR⟩ := hWR
  have hPr : va_P D vwCl (recW cI cF o (sL x).length g1 g2 g3 g4) _ := hwR ▸ lz_cutP (sk_pR _ _ wD wR wS) hP
  have hDr : va_D A (recW cI cF o (sL x).length g1 g2 g3 g4) := hwR ▸ lz_cutD (sk_pR _ _ wD wR wS) hD
  have hlen := hL.1
  have hcq := cq_le (sL x) z.toInt
  refine lv_iload_n hx hb dX3_neededPlace_0 rfl (lv_at hl 2 rfl) ?_
  refine lv_if_lt (tgt := 16) hx hb dX3_neededPlace_1 (by decide) (fun c_1 => ?_) (fun c_1 => ?_)
  · exact lx_thI (text := "no such input of this step") (is := 200) (by decide) hC hx hb htab hlk hl hP hS (hts (.classLink RX3 126 "java/lang/IndexOutOfBoundsException") (List.mem_of_getElem? (i := 1) rfl)) (hts (.initialized "java/lang/IndexOutOfBoundsException") (List.mem_of_getElem? (i := 2) rfl)) (fun _ h9 => List.mem_cons_of_mem _ (List.mem_append_right _ h9)) dX3_neededPlace_16 dX3_neededPlace_19 dX3_neededPlace_20 dX3_neededPlace_22 dX3_neededPlace_25 (Nat.le_of_ble_eq_true rfl) (Nat.le_of_ble_eq_true rfl) (Nat.le_of_ble_eq_true rfl) (Nat.le_of_ble_eq_true rfl) ⟨rfl, fun q9 => absurd (iz_lt0.mp c_1) (by omega)⟩ (Nat.le_of_ble_eq_true rfl) (Nat.le_of_ble_eq_true rfl)
  · have h0 : 0 ≤ q.toInt := by have := mt iz_lt0.mpr c_1; omega
    refine lv_iload_n hx hb dX3_neededPlace_4 rfl (lv_at hl 2 rfl) ?_
    refine lv_aload_n hx hb dX3_neededPlace_5 rfl (lv_at hl 0 rfl) ?_
    refine va_get (D := D) (ci := 3) (v := .ref (o 6)) (C := RX3) (T := TX3) (N := 7) hx hb hts hiX3 hown hK hP 0 rfl rfl 2 (by decide) (hts (.fieldLink RX3 23 "StateKeeper" "inputRecord" "LStateKeeper$InputRecord;") (List.mem_of_getElem? (i := 3) rfl)) (fun _ h9 => h9) rfl dX3_neededPlace_6 ?_
    refine lv_iload_n hx hb dX3_neededPlace_9 rfl (lv_at hl 1 rfl) ?_
    refine vp_callSi (lz_runVN (C := RX1) (As := [.int z]) (rest := [.int q]) hC hS hl (c_X1_sizeOf hrec hs hL) ⟨va_cnB 1 hts gX3_neededPlace_X1_sizeOf_n82 rfl rfl rfl (hnm (RX3, 82, yX1_sizeOf) (by decide)) (hts (.initialized RX1) (List.mem_of_getElem? (i := 5) rfl)) (by decide +kernel) ⟨Nat.le_of_ble_eq_true rfl, Nat.le_of_ble_eq_true rfl⟩, (hts (.instanceMethod yX1_sizeOf) (List.mem_of_getElem? (i := 4) rfl)), (hts (.selects RX1 yX1_sizeOf yX1_sizeOf) (List.mem_of_getElem? (i := 6) rfl))⟩ hPr hDr (va_recv hK hPr (ci := 1) (q0 := 0) rfl rfl) rfl rfl (Nat.le_of_ble_eq_true rfl) dX3_neededPlace_10 ⟨Nat.le_of_ble_eq_true rfl, Nat.le_of_ble_eq_true rfl⟩).run (fun r_2 er_2 => ?_)
    subst er_2
    refine lv_icmp_lt (tgt := 26) hx hb dX3_neededPlace_13 (by decide) (fun c_3 => ?_) (fun c_3 => ?_)
    · have h1 := (iz_lt_r (by omega)).mp c_3
      obtain ⟨k9, hk9, rfl, hk8⟩ := iz_nat h0
      have hl : lv_has ls 3 [(0, .ref (o 0)), (1, .int z), (2, .int (nI k9))] := hl
      refine lv_aload_n hx hb dX3_neededPlace_26 rfl (lv_at hl 0 rfl) ?_
      refine va_get (D := D) (ci := 3) (v := .ref (o 6)) (C := RX3) (T := TX3) (N := 7) hx hb hts hiX3 hown hK hP 0 rfl rfl 2 (by decide) (hts (.fieldLink RX3 23 "StateKeeper" "inputRecord" "LStateKeeper$InputRecord;") (List.mem_of_getElem? (i := 3) rfl)) (fun _ h9 => h9) rfl dX3_neededPlace_27 ?_
      refine lv_iload_n hx hb dX3_neededPlace_30 rfl (lv_at hl 1 rfl) ?_
      refine lv_i2l (v := z.toInt64) hx hb dX3_neededPlace_31 rfl ?_
      refine vp_callSi (lz_runVN (C := RX1) (As := [.long z.toInt64]) (rest := []) hC hS hl (c_X1_sizeBelow hrec hs hL) ⟨va_cnB 1 hts gX3_neededPlace_X1_sizeBelow_n202 rfl rfl rfl (hnm (RX3, 202, yX1_sizeBelow) (by decide)) (hts (.initialized RX1) (List.mem_of_getElem? (i := 5) rfl)) (by decide +kernel) ⟨Nat.le_of_ble_eq_true rfl, Nat.le_of_ble_eq_true rfl⟩, (hts (.instanceMethod yX1_sizeBelow) (List.mem_of_getElem? (i := 9) rfl)), (hts (.selects RX1 yX1_sizeBelow yX1_sizeBelow) (List.mem_of_getElem? (i := 10) rfl))⟩ hPr hDr (va_recv hK hPr (ci := 1) (q0 := 0) rfl rfl) rfl rfl (Nat.le_of_ble_eq_true rfl) dX3_neededPlace_32 ⟨Nat.le_of_ble_eq_true rfl, Nat.le_of_ble_eq_true rfl⟩).run (fun r_4 er_4 => ?_)
      subst er_4
      refine lz_i (y := nI (cb (sL x) z.toInt)) (by rw [il_toInt]) ?_
      refine lv_iload_n hx hb dX3_neededPlace_35 rfl (lv_at hl 2 rfl) ?_
      refine lv_iadd hx hb dX3_neededPlace_36 ?_
      refine lz_i (nI_add _ _) ?_
      refine vx_ret (W.widen (k := 1) (n := 6) (Nat.le_of_ble_eq_true rfl) (Nat.le_of_ble_eq_true rfl) ?_)
      exact W.iret hx hb hr (fun t9 ht9 _ => ⟨⟨_, (((o 0), .inr (3, [.ref (o 1), .ref (o 2), .ref (o 6), .ref (o 11), .int (nI (sT x)), .int (nI ev), .int (sd x)])) :: ((o 1), .inl (cF, n, .inr (.inr (.inl (sc x))))) :: (wD ++ (wR ++ wS))), rfl, ⟨rfl, ⟨h0, h1⟩, by rw [hk8]; rfl⟩, by show va_P D vwCl _ t9.heap; rw [ht9]; exact hP⟩, hS.F ht9⟩) hS.2.2 dX3_neededPlace_37
    · exact lx_thI (text := "no such input of this step") (is := 200) (by decide) hC hx hb htab hlk hl hP hS (hts (.classLink RX3 126 "java/lang/IndexOutOfBoundsException") (List.mem_of_getElem? (i := 1) rfl)) (hts (.initialized "java/lang/IndexOutOfBoundsException") (List.mem_of_getElem? (i := 2) rfl)) (fun _ h9 => List.mem_cons_of_mem _ (List.mem_append_right _ h9)) dX3_neededPlace_16 dX3_neededPlace_19 dX3_neededPlace_20 dX3_neededPlace_22 dX3_neededPlace_25 (Nat.le_of_ble_eq_true rfl) (Nat.le_of_ble_eq_true rfl) (Nat.le_of_ble_eq_true rfl) (Nat.le_of_ble_eq_true rfl) ⟨rfl, fun q9 => c_3 ((iz_lt_r (by omega)).mpr q9.2)⟩ (Nat.le_of_ble_eq_true rfl) (Nat.le_of_ble_eq_true rfl)

end X3a
