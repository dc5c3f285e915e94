/-! StateKeeper: counting, summing, keeping, stepping, going back -/
theorem WS.ad2 {cI cF cQ : ClassId} {o : Nat → Nat} {n : Nat} {S S' : List sE} {w w' : va_W} (h : WS cI cF cQ o n S w) (h' : WS cI cF cQ o n S' w') : w.map Prod.fst = w'.map Prod.fst := h.ad.trans h'.ad.symm
theorem WR.ad2 {cI cF : ClassId} {o : Nat → Nat} {L L' : List rI} {w w' : va_W} (h : WR cI cF o L w) (h' : WR cI cF o L' w') : w.map Prod.fst = w'.map Prod.fst := h.ad.trans h'.ad.symm
theorem WD.ad2 {cI cF : ClassId} {o : Nat → Nat} {R R' : List dI} {w w' : va_W} (h : WD cI cF o R w) (h' : WD cI cF o R' w') : w.map Prod.fst = w'.map Prod.fst := h.ad.trans h'.ad.symm
theorem WC.ad2 {cI cF cQ : ClassId} {o : Nat → Nat} {n ev ev' : Nat} {R R' : List dI} {x x' : St} {w w' : va_W} (h : WC cI cF cQ o n ev R x w) (h' : WC cI cF cQ o n ev' R' x' w') : w.map Prod.fst = w'.map Prod.fst := h.ad.trans h'.ad.symm
/-- how many of the first k cells are not 0 -/
def nzc (c : Nat → UInt32) : Nat → Nat
  | 0 => 0
  | k + 1 => nzc c k + if FP.fcmp (c k) FP.fconst0 = some .eq then 0 else 1
theorem nzc_le (c : Nat → UInt32) : ∀ k, nzc c k ≤ k
  | 0 => Nat.le_refl 0
  | k + 1 => by
    have := nzc_le c k
    unfold nzc
    split <;> omega
/-- the sum of the first k cells -/
def smc (c : Nat → UInt32) : Nat → UInt32
  | 0 => FP.fconst0
  | k + 1 => FP.fadd (smc c k) (c k)
theorem smc_N {c : Nat → UInt32} (h : cfin c) : ∀ k, fN (smc c k)
  | 0 => fl_F c0_F
  | k + 1 => fl_add (smc_N h k) (h k)
/-- the lowest of the cells i, i + 1, .. (r of them) that differs; -1 if there is none -/
def dif (c b : Nat → UInt32) : Nat → Nat → Int32
  | 0, _ => -1
  | r + 1, i => if FP.fcmp (c i) (b i) = some .eq then dif c b r (i + 1) else nI i
section X3b
variable {l : Launch} {D : va_G} {cI cF cQ : ClassId} {aT sz : Nat} {o : Nat → Nat} {n ev : Nat} {R : List dI} {x : St} {w : va_W}
set_option maxRecDepth 100000 in
set_option maxHeartbeats 4000000 in
/-- cellsNotZero() -/
theorem c_X3_cellsNotZero (hw : WC cI cF cQ o n ev R x w) (hn : n ≤ 256) : Met l yX3_cellsNotZero wsX3_cellsNotZero (rmk 0 0 0) (pcW l D cI cF cQ aT [.ref (o 0)] w sz) (vp_Si (fun r => r = nI (nzc (sc x) n))) 0 0 (fun _ => False) := by
  obtain ⟨wD, wR, wS, hWD, hWR, hWS, rfl⟩ := hw
  refine lz_ofR (cc := cX3_cellsNotZero) (maxL := 3) (ret := (some .int)) (by decide) rfl (Nat.le_of_ble_eq_true rfl) ?_
  intro p e s m below meth c A hx hb hr hlk hC hP hD hS ls hl
  have hts := hC.1.2.2.2.2
  have hown : s.vm.findClass RX3 = some m.cls := hC.1.2.2.2.1
  have hml := hC.1.2.2.1
  have hA := hC.2.1
  have hK := hC.2.2.2.1
  have hnm := hC.2.2.2.2.1
  have hnf := hC.2.2.2.2.2.1
  have hiX3 : ∀ w ∈ u_ws RX3 TX3 7, w ∈ wsX3_cellsNotZero := fun _ h => List.mem_cons_of_mem _ (List.mem_append_right _ h)
  have hl : lv_has ls 3 [(0, .ref (o 0))] := hl
  refine lv_iconst (v := nI 0) hx hb dX3_cellsNotZero_0 (by decide) ?_
  refine lv_istore_n (lv' := [(1, .int (nI 0)), (0, .ref (o 0))]) hx hb dX3_cellsNotZero_1 rfl hl (by decide) rfl (fun ls hl => ?_)
  refine lv_iconst (v := nI 0) hx hb dX3_cellsNotZero_2 (by decide) ?_
  refine lv_istore_n (lv' := [(2, .int (nI 0)), (1, .int (nI 0)), (0, .ref (o 0))]) hx hb dX3_cellsNotZero_3 rfl hl (by decide) rfl (fun ls hl => ?_)
  have loop : ∀ (r i : Nat), r + i = n → ∀ ls : Array Slot, lv_has ls 3 [(2, .int (nI i)), (1, .int (nI (nzc (sc x) i))), (0, .ref (o 0))] → W p l e (rmk 0 0 0) s m [.ref (o 0)].toArray below meth c s.heap [] 0 0 (MQ below (vp_Si (fun r => r = nI (nzc (sc x) n))) [.ref (o 0)].toArray s 0 0 (fun _ => False)) (F0 m 4 ls []) := by
    intro r
    induction r with
    | zero =>
      intro i h1 ls hl
      have hl : lv_has ls 3 [(2, .int (nI i)), (1, .int (nI (nzc (sc x) i))), (0, .ref (o 0))] := hl
      refine lv_iload_n hx hb dX3_cellsNotZero_4 rfl (lv_at hl 0 rfl) ?_
      refine lv_aload_n hx hb dX3_cellsNotZero_5 rfl (lv_at hl 2 rfl) ?_
      refine va_get (D := D) (ci := 3) (v := .ref (o 1)) (C := RX3) (T := TX3) (N := 7) hx hb hts hiX3 hown hK hP 0 rfl rfl 0 (by decide) (hts (.fieldLink RX3 9 "StateKeeper" "cells" "[F") (List.mem_of_getElem? (i := 1) rfl)) (fun _ h9 => h9) rfl dX3_cellsNotZero_6 ?_
      refine va_alen (v := nI n) hx hb hK hP 1 0 rfl rfl rfl dX3_cellsNotZero_9 ?_
      refine lv_icmp_ge (tgt := 33) hx hb dX3_cellsNotZero_10 (by decide) (fun c_1 => ?_) (fun c_1 => absurd (nI_le (by omega) (by omega)) c_1)
      refine lv_iload_n hx hb dX3_cellsNotZero_33 rfl (lv_at hl 1 rfl) ?_
      have hi2 : i = n := by omega
      subst hi2
      exact W.iret hx hb hr (fun t9 ht9 _ => ⟨_, rfl, rfl, ht9⟩) (fun _ h => nomatch h) dX3_cellsNotZero_34
    | succ r ih =>
      intro i h1 ls hl
      have hl : lv_has ls 3 [(2, .int (nI i)), (1, .int (nI (nzc (sc x) i))), (0, .ref (o 0))] := hl
      have hnl := nzc_le (sc x) i
      refine lv_iload_n hx hb dX3_cellsNotZero_4 rfl (lv_at hl 0 rfl) ?_
      refine lv_aload_n hx hb dX3_cellsNotZero_5 rfl (lv_at hl 2 rfl) ?_
      refine va_get (D := D) (ci := 3) (v := .ref (o 1)) (C := RX3) (T := TX3) (N := 7) hx hb hts hiX3 hown hK hP 0 rfl rfl 0 (by decide) (hts (.fieldLink RX3 9 "StateKeeper" "cells" "[F") (List.mem_of_getElem? (i := 1) rfl)) (fun _ h9 => h9) rfl dX3_cellsNotZero_6 ?_
      refine va_alen (v := nI n) hx hb hK hP 1 0 rfl rfl rfl dX3_cellsNotZero_9 ?_
      refine lv_icmp_ge (tgt := 33) hx hb dX3_cellsNotZero_10 (by decide) (fun c1 => absurd c1 (nI_ge (by omega) (by omega))) (fun c1 => ?_)
      refine lv_aload_n hx hb dX3_cellsNotZero_13 rfl (lv_at hl 2 rfl) ?_
      refine va_get (D := D) (ci := 3) (v := .ref (o 1)) (C := RX3) (T := TX3) (N := 7) hx hb hts hiX3 hown hK hP 0 rfl rfl 0 (by decide) (hts (.fieldLink RX3 9 "StateKeeper" "cells" "[F") (List.mem_of_getElem? (i := 1) rfl)) (fun _ h9 => h9) rfl dX3_cellsNotZero_14 ?_
      refine lv_iload_n hx hb dX3_cellsNotZero_17 rfl (lv_at hl 0 rfl) ?_
      refine lz_fald hx hb hK hP 1 0 rfl rfl (by omega) (by omega) dX3_cellsNotZero_18 ?_
      refine lv_fconst0 hx hb dX3_cellsNotZero_19 ?_
      refine lv_fcmp hx hb dX3_cellsNotZero_20 ?_
      refine lv_if_eq (tgt := 27) hx hb dX3_cellsNotZero_21 (by decide) (fun c_2 => ?_) (fun c_2 => ?_)
      · refine lv_iinc (v := nI (i + 1)) (lv' := [(2, .int (nI (i + 1))), (1, .int (nI (nzc (sc x) i))), (0, .ref (o 0))]) hx hb dX3_cellsNotZero_27 hl (k := 0) rfl (nI_add _ 1) (by decide) rfl (fun ls hl => ?_)
        refine lv_goto (tgt := 4) hx hb dX3_cellsNotZero_30 (by decide) ?_
        have e9 : nzc (sc x) (i + 1) = nzc (sc x) i := by show nzc (sc x) i + _ = _; rw [if_pos ((fl_eql _ _).mp c_2)]; rfl
        exact ih (i + 1) (by omega) ls (by rw [e9]; exact lv_sub hl [0, 1, 2] rfl)
      · refine lv_iinc (v := nI ((nzc (sc x) i) + 1)) (lv' := [(1, .int (nI ((nzc (sc x) i) + 1))), (2, .int (nI i)), (0, .ref (o 0))]) hx hb dX3_cellsNotZero_24 hl (k := 1) rfl (nI_add _ 1) (by decide) rfl (fun ls hl => ?_)
        refine lv_iinc (v := nI (i + 1)) (lv' := [(2, .int (nI (i + 1))), (1, .int (nI ((nzc (sc x) i) + 1))), (0, .ref (o 0))]) hx hb dX3_cellsNotZero_27 hl (k := 1) rfl (nI_add _ 1) (by decide) rfl (fun ls hl => ?_)
        refine lv_goto (tgt := 4) hx hb dX3_cellsNotZero_30 (by decide) ?_
        have e9 : nzc (sc x) (i + 1) = nzc (sc x) i + 1 := by show nzc (sc x) i + _ = _; rw [if_neg (fun q => c_2 ((fl_eql _ _).mpr q))]
        exact ih (i + 1) (by omega) ls (by rw [e9]; exact lv_sub hl [0, 1, 2] rfl)
  exact loop n 0 (by omega) ls hl

set_option maxRecDepth 100000 in
set_option maxHeartbeats 4000000 in
/-- sum() -/
theorem c_X3_sum (hw : WC cI cF cQ o n ev R x w) (hn : n ≤ 256) (hc : cfin (sc x)) : Met l yX3_sum wsX3_sum (rmk 0 0 0) (pcW l D cI cF cQ aT [.ref (o 0)] w sz) (vp_Sf (fun r => r = smc (sc x) n)) 0 0 (fun _ => False) := by
  obtain ⟨wD, wR, wS, hWD, hWR, hWS, rfl⟩ := hw
  refine lz_ofR (cc := cX3_sum) (maxL := 3) (ret := (some .float)) (by decide) rfl (Nat.le_of_ble_eq_true rfl) ?_
  intro p e s m below meth c A hx hb hr hlk hC hP hD hS ls hl
  have hts := hC.1.2.2.2.2
  have hown : s.vm.findClass RX3 = some m.cls := hC.1.2.2.2.1
  have hml := hC.1.2.2.1
  have hA := hC.2.1
  have hK := hC.2.2.2.1
  have hnm := hC.2.2.2.2.1
  have hnf := hC.2.2.2.2.2.1
  have hiX3 : ∀ w ∈ u_ws RX3 TX3 7, w ∈ wsX3_sum := fun _ h => List.mem_cons_of_mem _ (List.mem_append_right _ h)
  have hl : lv_has ls 3 [(0, .ref (o 0))] := hl
  refine lv_fconst0 hx hb dX3_sum_0 ?_
  refine lv_fstore_n (lv' := [(1, .float FP.fconst0), (0, .ref (o 0))]) hx hb dX3_sum_1 rfl hl (by decide) rfl (fun ls hl => ?_)
  refine lv_iconst (v := nI 0) hx hb dX3_sum_2 (by decide) ?_
  refine lv_istore_n (lv' := [(2, .int (nI 0)), (1, .float FP.fconst0), (0, .ref (o 0))]) hx hb dX3_sum_3 rfl hl (by decide) rfl (fun ls hl => ?_)
  have loop : ∀ (r i : Nat), r + i = n → ∀ ls : Array Slot, lv_has ls 3 [(2, .int (nI i)), (1, .float (smc (sc x) i)), (0, .ref (o 0))] → W p l e (rmk 0 0 0) s m [.ref (o 0)].toArray below meth c s.heap [] 0 0 (MQ below (vp_Sf (fun r => r = smc (sc x) n)) [.ref (o 0)].toArray s 0 0 (fun _ => False)) (F0 m 4 ls []) := by
    intro r
    induction r with
    | zero =>
      intro i h1 ls hl
      have hl : lv_has ls 3 [(2, .int (nI i)), (1, .float (smc (sc x) i)), (0, .ref (o 0))] := hl
      refine lv_iload_n hx hb dX3_sum_4 rfl (lv_at hl 0 rfl) ?_
      refine lv_aload_n hx hb dX3_sum_5 rfl (lv_at hl 2 rfl) ?_
      refine va_get (D := D) (ci := 3) (v := .ref (o 1)) (C := RX3) (T := TX3) (N := 7) hx hb hts hiX3 hown hK hP 0 rfl rfl 0 (by decide) (hts (.fieldLink RX3 9 "StateKeeper" "cells" "[F") (List.mem_of_getElem? (i := 1) rfl)) (fun _ h9 => h9) rfl dX3_sum_6 ?_
      refine va_alen (v := nI n) hx hb hK hP 1 0 rfl rfl rfl dX3_sum_9 ?_
      refine lv_icmp_ge (tgt := 28) hx hb dX3_sum_10 (by decide) (fun c_1 => ?_) (fun c_1 => absurd (nI_le (by omega) (by omega)) c_1)
      refine lv_fload_n hx hb dX3_sum_28 rfl (lv_at hl 1 rfl) ?_
      have hi2 : i = n := by omega
      subst hi2
      exact W.fret hx hb hr (fun t9 ht9 _ => ⟨_, rfl, rfl, ht9⟩) (fun _ h => nomatch h) dX3_sum_29
    | succ r ih =>
      intro i h1 ls hl
      have hl : lv_has ls 3 [(2, .int (nI i)), (1, .float (smc (sc x) i)), (0, .ref (o 0))] := hl
      refine lv_iload_n hx hb dX3_sum_4 rfl (lv_at hl 0 rfl) ?_
      refine lv_aload_n hx hb dX3_sum_5 rfl (lv_at hl 2 rfl) ?_
      refine va_get (D := D) (ci := 3) (v := .ref (o 1)) (C := RX3) (T := TX3) (N := 7) hx hb hts hiX3 hown hK hP 0 rfl rfl 0 (by decide) (hts (.fieldLink RX3 9 "StateKeeper" "cells" "[F") (List.mem_of_getElem? (i := 1) rfl)) (fun _ h9 => h9) rfl dX3_sum_6 ?_
      refine va_alen (v := nI n) hx hb hK hP 1 0 rfl rfl rfl dX3_sum_9 ?_
      refine lv_icmp_ge (tgt := 28) hx hb dX3_sum_10 (by decide) (fun c1 => absurd c1 (nI_ge (by omega) (by omega))) (fun c1 => ?_)
      refine lv_fload_n hx hb dX3_sum_13 rfl (lv_at hl 1 rfl) ?_
      refine lv_aload_n hx hb dX3_sum_14 rfl (lv_at hl 2 rfl) ?_
      refine va_get (D := D) (ci := 3) (v := .ref (o 1)) (C := RX3) (T := TX3) (N := 7) hx hb hts hiX3 hown hK hP 0 rfl rfl 0 (by decide) (hts (.fieldLink RX3 9 "StateKeeper" "cells" "[F") (List.mem_of_getElem? (i := 1) rfl)) (fun _ h9 => h9) rfl dX3_sum_15 ?_
      refine lv_iload_n hx hb dX3_sum_18 rfl (lv_at hl 0 rfl) ?_
      refine lz_fald hx hb hK hP 1 0 rfl rfl (by omega) (by omega) dX3_sum_19 ?_
      refine lv_fadd hx hb dX3_sum_20 (fl_n32 (fl_add (smc_N hc i) (hc i))) ?_
      refine lv_fstore_n (lv' := [(1, .float (FP.fadd (smc (sc x) i) ((sc x) i))), (2, .int (nI i)), (0, .ref (o 0))]) hx hb dX3_sum_21 rfl hl (by decide) rfl (fun ls hl => ?_)
      refine lv_iinc (v := nI (i + 1)) (lv' := [(2, .int (nI (i + 1))), (1, .float (FP.fadd (smc (sc x) i) ((sc x) i))), (0, .ref (o 0))]) hx hb dX3_sum_22 hl (k := 1) rfl (nI_add _ 1) (by decide) rfl (fun ls hl => ?_)
      refine lv_goto (tgt := 4) hx hb dX3_sum_25 (by decide) ?_
      exact ih (i + 1) (by omega) ls (lv_sub hl [0, 1, 2] rfl)
  exact loop n 0 (by omega) ls hl

set_option maxRecDepth 100000 in
set_option maxHeartbeats 4000000 in
/-- keepPresent() -/
theorem c_X3_keepPresent (hw : WC cI cF cQ o n ev R x w) (hx0 : Ok n ev R x) (hs : srt (sL x)) : Met l yX3_keepPresent wsX3_keepPresent (rmk 5 0 0) (pcW l D cI cF cQ aT [.ref (o 0)] w sz) (va_Qv (fun (w1 : va_W) => WC cI cF cQ o n ev R (kp x) w1) (fun w1 t => va_P D vwCl w1 t.heap) (va_A w sz)) 0 0 (va_A w sz) := by
  obtain ⟨wD, wR, wS, hWD, hWR, hWS, rfl⟩ := hw
  refine lz_ofM (Qf := fun A => va_Qv (fun (w1 : va_W) => WC cI cF cQ o n ev R (kp x) w1) (fun w1 t => va_P D vwCl w1 t.heap) A) (cc := cX3_keepPresent) (maxL := 2) (ret := none) (by decide) rfl (Nat.le_of_ble_eq_true rfl) ?_
  intro p e s m below meth c A hAe hsz hx hb hr hlk hin hC hP hD hS ls hl
  clear hAe
  have hts := hC.1.2.2.2.2
  have hown : s.vm.findClass RX3 = some m.cls := hC.1.2.2.2.1
  have hml := hC.1.2.2.1
  have hA := hC.2.1
  have hK := hC.2.2.2.1
  have hnm := hC.2.2.2.2.1
  have hnf := hC.2.2.2.2.2.1
  have hiX3 : ∀ w ∈ u_ws RX3 TX3 7, w ∈ wsX3_keepPresent := fun _ h => List.mem_cons_of_mem _ (List.mem_append_left _ (List.mem_append_left _ (List.mem_append_right _ h)))
  have hl : lv_has ls 2 [(0, .ref (o 0))] := hl
  have hn9 := hx0.1.2
  have hev9 := hx0.2.1
  have hcf : cfin (sc x) := hx0.2.2.2.1
  have hT9 : sT x < 2 ^ 29 := hx0.2.2.2.2.1
  have hL9 : rIn n (sL x) := hx0.2.2.2.2.2.1
  have hS9 : sGood (sS x) := hx0.2.2.2.2.2.2.1
  have hlen := hS9.2.1
  have hk9 := kp_ok hx0
  obtain ⟨a, f1, M, ha, hok, rfl⟩ := id hWS
  refine lv_aload_n hx hb dX3_keepPresent_0 rfl (lv_at hl 0 rfl) ?_
  refine va_get (D := D) (ci := 3) (v := .ref (o 11)) (C := RX3) (T := TX3) (N := 7) hx hb hts hiX3 hown hK hP 0 rfl rfl 3 (by decide) (hts (.fieldLink RX3 32 "StateKeeper" "snapshots" "LStateKeeper$Snapshots;") (List.mem_of_getElem? (i := 1) rfl)) (fun _ h9 => h9) rfl dX3_keepPresent_1 ?_
  refine lv_aload_n hx hb dX3_keepPresent_4 rfl (lv_at hl 0 rfl) ?_
  refine va_get (D := D) (ci := 3) (v := .int (nI (sT x))) (C := RX3) (T := TX3) (N := 7) hx hb hts hiX3 hown hK hP 0 rfl rfl 4 (by decide) (hts (.fieldLink RX3 57 "StateKeeper" "present" "I") (List.mem_of_getElem? (i := 2) rfl)) (fun _ h9 => h9) rfl dX3_keepPresent_5 ?_
  refine lv_aload_n hx hb dX3_keepPresent_8 rfl (lv_at hl 0 rfl) ?_
  refine va_get (D := D) (ci := 3) (v := .ref (o 1)) (C := RX3) (T := TX3) (N := 7) hx hb hts hiX3 hown hK hP 0 rfl rfl 0 (by decide) (hts (.fieldLink RX3 9 "StateKeeper" "cells" "[F") (List.mem_of_getElem? (i := 3) rfl)) (fun _ h9 => h9) rfl dX3_keepPresent_9 ?_
  have hPc : va_P D vwCl (((o 1), .inl (cF, n, .inr (.inr (.inl (sc x))))) :: (snapW cI cF cQ o n a (sS x).length f1 M)) _ := lz_cutP (sk_pCS ((o 0), .inr (3, [.ref (o 1), .ref (o 2), .ref (o 6), .ref (o 11), .int (nI (sT x)), .int (nI ev), .int (sd x)])) ((o 1), .inl (cF, n, .inr (.inr (.inl (sc x))))) wD wR (snapW cI cF cQ o n a (sS x).length f1 M)) hP
  have hDc : va_D A (((o 1), .inl (cF, n, .inr (.inr (.inl (sc x))))) :: (snapW cI cF cQ o n a (sS x).length f1 M)) := lz_cutD (sk_pCS ((o 0), .inr (3, [.ref (o 1), .ref (o 2), .ref (o 6), .ref (o 11), .int (nI (sT x)), .int (nI ev), .int (sd x)])) ((o 1), .inl (cF, n, .inr (.inr (.inl (sc x))))) wD wR (snapW cI cF cQ o n a (sS x).length f1 M)) hD
  refine lz_cMi (w2 := fun w1 => w1 ++ (((o 0), .inr (3, [.ref (o 1), .ref (o 2), .ref (o 6), .ref (o 11), .int (nI (sT x)), .int (nI ev), .int (sd x)])) :: (wD ++ wR))) (lz_runVN (C := RX2) (As := [.int (nI (sT x)), .ref (o 1)]) (rest := []) hC hS hl (c_X2_take ha hok hS9 (show sT x < 2 ^ 30 by omega) hn9 (fun e9 h9 => (hx0.2.2.2.2.2.2.2.1 e9 h9).2) hx0.2.2.2.2.2.2.2.2) ⟨va_cnB 2 hts gX3_keepPresent_X2_take_n167 rfl rfl rfl (hnm (RX3, 167, yX2_take) (by decide)) (hts (.initialized RX2) (List.mem_of_getElem? (i := 6) rfl)) (by decide +kernel) ⟨Nat.le_of_ble_eq_true rfl, Nat.le_of_ble_eq_true rfl⟩, (hts (.instanceMethod yX2_take) (List.mem_of_getElem? (i := 5) rfl)), (hts (.selects RX2 yX2_take yX2_take) (List.mem_of_getElem? (i := 7) rfl))⟩ hPc hDc (va_recv hK hPc (ci := 2) (q0 := 1) rfl rfl) rfl rfl (Nat.le_of_ble_eq_true rfl) dX3_keepPresent_12 ⟨Nat.le_of_ble_eq_true rfl, Nat.le_of_ble_eq_true rfl⟩) hP hD hS hA (sk_pCS ((o 0), .inr (3, [.ref (o 1), .ref (o 2), .ref (o 6), .ref (o 11), .int (nI (sT x)), .int (nI ev), .int (sd x)])) ((o 1), .inl (cF, n, .inr (.inr (.inl (sc x))))) wD wR (snapW cI cF cQ o n a (sS x).length f1 M)) (fun r w1 h => by obtain ⟨-, w2, rfl, h2⟩ := h; rw [List.map_cons, List.map_cons, h2.ad2 hWS]) (fun _ => List.Perm.refl _) (fun r_1 w1 H locs hpo hP hD hS => ?_)
  obtain ⟨hr1, wS2, rfl, hWS2⟩ := hpo
  subst hr1
  replace hP := lz_permP (sk_pCS ((o 0), .inr (3, [.ref (o 1), .ref (o 2), .ref (o 6), .ref (o 11), .int (nI (sT x)), .int (nI ev), .int (sd x)])) ((o 1), .inl (cF, n, .inr (.inr (.inl (sc x))))) wD wR wS2).symm hP
  replace hD := lz_permD (sk_pCS ((o 0), .inr (3, [.ref (o 1), .ref (o 2), .ref (o 6), .ref (o 11), .int (nI (sT x)), .int (nI ev), .int (sd x)])) ((o 1), .inl (cF, n, .inr (.inr (.inl (sc x))))) wD wR wS2).symm hD
  have hP : va_P D vwCl (((o 0), .inr (3, [.ref (o 1), .ref (o 2), .ref (o 6), .ref (o 11), .int (nI (sT x)), .int (nI ev), .int (sd x)])) :: ((o 1), .inl (cF, n, .inr (.inr (.inl (sc x))))) :: (wD ++ (wR ++ wS2))) H := hP
  have hD : va_D A (((o 0), .inr (3, [.ref (o 1), .ref (o 2), .ref (o 6), .ref (o 11), .int (nI (sT x)), .int (nI ev), .int (sd x)])) :: ((o 1), .inl (cF, n, .inr (.inr (.inl (sc x))))) :: (wD ++ (wR ++ wS2))) := hD
  clear hWS
  have hWS := hWS2
  by_cases hdr : plc (sS x) (sT x : Int) = none ∧ (sS x).length = 16
  · skip
    refine lz_i (y := nI 1) (if_pos hdr) ?_
    refine lv_istore_n (lv' := [(1, .int (nI 1)), (0, .ref (o 0))]) hx hb dX3_keepPresent_15 rfl hl (by decide) rfl (fun ls hl => ?_)
    refine lv_iload_n hx hb dX3_keepPresent_16 rfl (lv_at hl 0 rfl) ?_
    refine lv_if_eq (tgt := 35) hx hb dX3_keepPresent_17 (by decide) (fun c_2 => absurd c_2 (by decide)) (fun c_2 => ?_)
    have hS8 : sGood (snapT (sS x) (sT x) (sc x)) := hk9.2.2.2.2.2.2.1
    have hp8 : 0 < (snapT (sS x) (sT x) (sc x)).length := hk9.2.2.2.2.2.2.2.2
    obtain ⟨a2, f12, M2, ha2, hok2, rfl⟩ := id hWS2
    obtain ⟨e8, he8⟩ : ∃ e8, (snapT (sS x) (sT x) (sc x))[0]? = some e8 := ⟨_, List.getElem?_eq_getElem hp8⟩
    have hs0 : s0 (snapT (sS x) (sT x) (sc x)) = e8.1 := by
      cases hq : snapT (sS x) (sT x) (sc x) with
      | nil => rw [hq] at he8; cases he8
      | cons y t => rw [hq] at he8; cases he8; rfl
    have hb8 := sGood_lt hS8 he8
    have hv8 : f12 ((a2 + 0) % 16) = nI e8.1 := (hok2 0 e8 he8).1
    refine lv_aload_n hx hb dX3_keepPresent_20 rfl (lv_at hl 1 rfl) ?_
    refine va_get (D := D) (ci := 3) (v := .ref (o 6)) (C := RX3) (T := TX3) (N := 7) hx hb hts hiX3 hown hK hP 0 rfl rfl 2 (by decide) (hts (.fieldLink RX3 23 "StateKeeper" "inputRecord" "LStateKeeper$InputRecord;") (List.mem_of_getElem? (i := 4) rfl)) (fun _ h9 => h9) rfl dX3_keepPresent_21 ?_
    refine lv_aload_n hx hb dX3_keepPresent_24 rfl (lv_at hl 1 rfl) ?_
    refine va_get (D := D) (ci := 3) (v := .ref (o 11)) (C := RX3) (T := TX3) (N := 7) hx hb hts hiX3 hown hK hP 0 rfl rfl 3 (by decide) (hts (.fieldLink RX3 32 "StateKeeper" "snapshots" "LStateKeeper$Snapshots;") (List.mem_of_getElem? (i := 1) rfl)) (fun _ h9 => h9) rfl dX3_keepPresent_25 ?_
    refine lv_iconst (v := nI 0) hx hb dX3_keepPresent_28 (by decide) ?_
    have hPc : va_P D vwCl (snapW cI cF cQ o n a2 (snapT (sS x) (sT x) (sc x)).length f12 M2) _ := lz_cutP (sk_pS ((o 0), .inr (3, [.ref (o 1), .ref (o 2), .ref (o 6), .ref (o 11), .int (nI (sT x)), .int (nI ev), .int (sd x)])) ((o 1), .inl (cF, n, .inr (.inr (.inl (sc x))))) wD wR (snapW cI cF cQ o n a2 (snapT (sS x) (sT x) (sc x)).length f12 M2)) hP
    have hDc : va_D A (snapW cI cF cQ o n a2 (snapT (sS x) (sT x) (sc x)).length f12 M2) := lz_cutD (sk_pS ((o 0), .inr (3, [.ref (o 1), .ref (o 2), .ref (o 6), .ref (o 11), .int (nI (sT x)), .int (nI ev), .int (sd x)])) ((o 1), .inl (cF, n, .inr (.inr (.inl (sc x))))) wD wR (snapW cI cF cQ o n a2 (snapT (sS x) (sT x) (sc x)).length f12 M2)) hD
    refine vp_callSi (lz_runVN (C := RX2) (As := [.int (nI 0)]) (rest := [.ref (o 6)]) hC hS hl (c_X2_stepOf (j := 0) ha2 (by omega)) ⟨va_cnB 1 hts gX3_keepPresent_X2_stepOf_n131 rfl rfl rfl (hnm (RX3, 131, yX2_stepOf) (by decide)) (hts (.initialized RX2) (List.mem_of_getElem? (i := 6) rfl)) (by decide +kernel) ⟨Nat.le_of_ble_eq_true rfl, Nat.le_of_ble_eq_true rfl⟩, (hts (.instanceMethod yX2_stepOf) (List.mem_of_getElem? (i := 18) rfl)), (hts (.selects RX2 yX2_stepOf yX2_stepOf) (List.mem_of_getElem? (i := 19) rfl))⟩ hPc hDc (va_recv hK hPc (ci := 2) (q0 := 0) rfl rfl) rfl rfl (Nat.le_of_ble_eq_true rfl) dX3_keepPresent_29 ⟨Nat.le_of_ble_eq_true rfl, Nat.le_of_ble_eq_true rfl⟩).run (fun r_3 er_3 => ?_)
    subst er_3
    refine lz_i (y := nI (s0 (snapT (sS x) (sT x) (sc x)))) (by rw [hs0]; exact hv8) ?_
    obtain ⟨g1, g2, g3, g4, hrec, rfl⟩ := id hWR
    have hPc : va_P D vwCl (recW cI cF o (sL x).length g1 g2 g3 g4) _ := lz_cutP (sk_pR ((o 0), .inr (3, [.ref (o 1), .ref (o 2), .ref (o 6), .ref (o 11), .int (nI (sT x)), .int (nI ev), .int (sd x)])) ((o 1), .inl (cF, n, .inr (.inr (.inl (sc x))))) wD (recW cI cF o (sL x).length g1 g2 g3 g4) (snapW cI cF cQ o n a2 (snapT (sS x) (sT x) (sc x)).length f12 M2)) hP
    have hDc : va_D A (recW cI cF o (sL x).length g1 g2 g3 g4) := lz_cutD (sk_pR ((o 0), .inr (3, [.ref (o 1), .ref (o 2), .ref (o 6), .ref (o 11), .int (nI (sT x)), .int (nI ev), .int (sd x)])) ((o 1), .inl (cF, n, .inr (.inr (.inl (sc x))))) wD (recW cI cF o (sL x).length g1 g2 g3 g4) (snapW cI cF cQ o n a2 (snapT (sS x) (sT x) (sc x)).length f12 M2)) hD
    refine lz_cMv (w2 := fun w1 => w1 ++ (((o 0), .inr (3, [.ref (o 1), .ref (o 2), .ref (o 6), .ref (o 11), .int (nI (sT x)), .int (nI ev), .int (sd x)])) :: ((o 1), .inl (cF, n, .inr (.inr (.inl (sc x))))) :: (wD ++ (snapW cI cF cQ o n a2 (snapT (sS x) (sT x) (sc x)).length f12 M2)))) (lz_runVN (C := RX1) (As := [.int (nI (s0 (snapT (sS x) (sT x) (sc x))))]) (rest := []) hC hS hl (c_X1_dropBelow hrec hs hL9 (by rw [hs0]; exact hb8)) ⟨va_cnB 1 hts gX3_keepPresent_X1_dropBelow_n171 rfl rfl rfl (hnm (RX3, 171, yX1_dropBelow) (by decide)) (hts (.initialized RX1) (List.mem_of_getElem? (i := 26) rfl)) (by decide +kernel) ⟨Nat.le_of_ble_eq_true rfl, Nat.le_of_ble_eq_true rfl⟩, (hts (.instanceMethod yX1_dropBelow) (List.mem_of_getElem? (i := 25) rfl)), (hts (.selects RX1 yX1_dropBelow yX1_dropBelow) (List.mem_of_getElem? (i := 27) rfl))⟩ hPc hDc (va_recv hK hPc (ci := 1) (q0 := 0) rfl rfl) rfl rfl (Nat.le_of_ble_eq_true rfl) dX3_keepPresent_32 ⟨Nat.le_of_ble_eq_true rfl, Nat.le_of_ble_eq_true rfl⟩) hP hD hS hA (sk_pR ((o 0), .inr (3, [.ref (o 1), .ref (o 2), .ref (o 6), .ref (o 11), .int (nI (sT x)), .int (nI ev), .int (sd x)])) ((o 1), .inl (cF, n, .inr (.inr (.inl (sc x))))) wD (recW cI cF o (sL x).length g1 g2 g3 g4) (snapW cI cF cQ o n a2 (snapT (sS x) (sT x) (sc x)).length f12 M2)) (fun w1 h => h.ad2 hWR) (fun _ => List.Perm.refl _) (fun w1 H locs hpo hP hD hS => ?_)
    have hWR2 := hpo
    replace hP := lz_permP (sk_pR ((o 0), .inr (3, [.ref (o 1), .ref (o 2), .ref (o 6), .ref (o 11), .int (nI (sT x)), .int (nI ev), .int (sd x)])) ((o 1), .inl (cF, n, .inr (.inr (.inl (sc x))))) wD w1 (snapW cI cF cQ o n a2 (snapT (sS x) (sT x) (sc x)).length f12 M2)).symm hP
    replace hD := lz_permD (sk_pR ((o 0), .inr (3, [.ref (o 1), .ref (o 2), .ref (o 6), .ref (o 11), .int (nI (sT x)), .int (nI ev), .int (sd x)])) ((o 1), .inl (cF, n, .inr (.inr (.inl (sc x))))) wD w1 (snapW cI cF cQ o n a2 (snapT (sS x) (sT x) (sc x)).length f12 M2)).symm hD
    have hP : va_P D vwCl (((o 0), .inr (3, [.ref (o 1), .ref (o 2), .ref (o 6), .ref (o 11), .int (nI (sT x)), .int (nI ev), .int (sd x)])) :: ((o 1), .inl (cF, n, .inr (.inr (.inl (sc x))))) :: (wD ++ (w1 ++ (snapW cI cF cQ o n a2 (snapT (sS x) (sT x) (sc x)).length f12 M2)))) H := hP
    have hD : va_D A (((o 0), .inr (3, [.ref (o 1), .ref (o 2), .ref (o 6), .ref (o 11), .int (nI (sT x)), .int (nI ev), .int (sd x)])) :: ((o 1), .inl (cF, n, .inr (.inr (.inl (sc x))))) :: (wD ++ (w1 ++ (snapW cI cF cQ o n a2 (snapT (sS x) (sT x) (sc x)).length f12 M2)))) := hD
    have hWR := hWR2
    have hkL : kpL (sS x) (sT x) (sc x) (sL x) = (sL x).filter (fun e => decide ((s0 (snapT (sS x) (sT x) (sc x)) : Int) ≤ (e.1 : Int))) := if_pos hdr
    exact W.vret hx hb hr (fun t9 ht9 _ => ⟨⟨(((o 0), .inr (3, [.ref (o 1), .ref (o 2), .ref (o 6), .ref (o 11), .int (nI (sT x)), .int (nI ev), .int (sd x)])) :: ((o 1), .inl (cF, n, .inr (.inr (.inl (sc x))))) :: (wD ++ (w1 ++ (snapW cI cF cQ o n a2 (snapT (sS x) (sT x) (sc x)).length f12 M2)))), rfl, ⟨_, _, _, hWD, by show WR cI cF o (kpL _ _ _ _) _; rw [hkL]; exact hWR, hWS, rfl⟩, by show va_P D vwCl _ t9.heap; rw [ht9]; exact hP⟩, hS.F ht9⟩) hS.2.2 dX3_keepPresent_35
  · skip
    refine lz_i (y := nI 0) (if_neg hdr) ?_
    refine lv_istore_n (lv' := [(1, .int (nI 0)), (0, .ref (o 0))]) hx hb dX3_keepPresent_15 rfl hl (by decide) rfl (fun ls hl => ?_)
    refine lv_iload_n hx hb dX3_keepPresent_16 rfl (lv_at hl 0 rfl) ?_
    refine lv_if_eq (tgt := 35) hx hb dX3_keepPresent_17 (by decide) (fun c_4 => ?_) (fun c_4 => absurd nI_0 c_4)
    have hkL : kpL (sS x) (sT x) (sc x) (sL x) = sL x := if_neg hdr
    exact W.vret hx hb hr (fun t9 ht9 _ => ⟨⟨(((o 0), .inr (3, [.ref (o 1), .ref (o 2), .ref (o 6), .ref (o 11), .int (nI (sT x)), .int (nI ev), .int (sd x)])) :: ((o 1), .inl (cF, n, .inr (.inr (.inl (sc x))))) :: (wD ++ (wR ++ wS2))), rfl, ⟨_, _, _, hWD, by show WR cI cF o (kpL _ _ _ _) _; rw [hkL]; exact hWR, hWS, rfl⟩, by show va_P D vwCl _ t9.heap; rw [ht9]; exact hP⟩, hS.F ht9⟩) hS.2.2 dX3_keepPresent_35

set_option maxRecDepth 100000 in
set_option maxHeartbeats 4000000 in
/-- doSteps(n) -/
theorem c_X3_doSteps {k : Nat} (hk : k < 2 ^ 29) (hw : WC cI cF cQ o n ev R x w) (hx0 : Ok n ev R x) (hs : srt (sL x)) (hT1 : sT x + k < 2 ^ 29) : Met l yX3_doSteps wsX3_doSteps (rmk 7 0 0) (pcW l D cI cF cQ aT [.ref (o 0), .int (nI k)] w sz) (va_Qv (fun (w1 : va_W) => WC cI cF cQ o n ev R (stps R ev k x) w1) (fun w1 t => va_P D vwCl w1 t.heap) (va_A w sz)) 0 0 (va_A w sz) := by
  refine lz_ofM (Qf := fun A => va_Qv (fun (w1 : va_W) => WC cI cF cQ o n ev R (stps R ev k x) w1) (fun w1 t => va_P D vwCl w1 t.heap) A) (cc := cX3_doSteps) (maxL := 3) (ret := none) (by decide) rfl (Nat.le_of_ble_eq_true rfl) ?_
  intro p e s m below meth c A hAe hsz hx hb hr hlk hin hC hP hD hS ls hl
  clear hAe
  have hts := hC.1.2.2.2.2
  have hown : s.vm.findClass RX3 = some m.cls := hC.1.2.2.2.1
  have hml := hC.1.2.2.1
  have hA := hC.2.1
  have hK := hC.2.2.2.1
  have hnm := hC.2.2.2.2.1
  have hnf := hC.2.2.2.2.2.1
  have hiX3 : ∀ w ∈ u_ws RX3 TX3 7, w ∈ wsX3_doSteps := fun _ h => List.mem_cons_of_mem _ (List.mem_append_left _ (List.mem_append_left _ (List.mem_append_left _ (List.mem_append_right _ h))))
  have hl : lv_has ls 3 [(0, .ref (o 0)), (1, .int (nI k))] := hl
  refine lv_iconst (v := nI 0) hx hb dX3_doSteps_0 (by decide) ?_
  refine lv_istore_n (lv' := [(2, .int (nI 0)), (0, .ref (o 0)), (1, .int (nI k))]) hx hb dX3_doSteps_1 rfl hl (by decide) rfl (fun ls hl => ?_)
  have loop : ∀ (r i : Nat), r + i = k → ∀ (y : St) (w : va_W), WC cI cF cQ o n ev R y w → Ok n ev R y → srt (sL y) → sT y + r < 2 ^ 29 → stps R ev r y = stps R ev k x → ∀ (H : Heap) (locs : List Loc) (ls : Array Slot), va_P D vwCl w H → va_D A w → va_S A s.heap H locs → lv_has ls 3 [(2, .int (nI i)), (0, .ref (o 0)), (1, .int (nI k))] → W p l e (rmk 7 0 0) s m [.ref (o 0), .int (nI k)].toArray below meth c H locs 0 0 (MQ below (va_Qv (fun (w1 : va_W) => WC cI cF cQ o n ev R (stps R ev k x) w1) (fun w1 t => va_P D vwCl w1 t.heap) A) [.ref (o 0), .int (nI k)].toArray s 0 0 A) (F0 m 2 ls []) := by
    intro r
    induction r with
    | zero =>
      intro i h1 y w hw hx0 hs hT he H locs ls hP hD hS hl
      have hl : lv_has ls 3 [(2, .int (nI i)), (0, .ref (o 0)), (1, .int (nI k))] := hl
      refine lv_iload_n hx hb dX3_doSteps_2 rfl (lv_at hl 0 rfl) ?_
      refine lv_iload_n hx hb dX3_doSteps_3 rfl (lv_at hl 2 rfl) ?_
      refine lv_icmp_ge (tgt := 82) hx hb dX3_doSteps_4 (by decide) (fun c_1 => ?_) (fun c_1 => absurd (nI_le (by omega) (by omega)) c_1)
      exact W.vret hx hb hr (fun t9 ht9 _ => ⟨⟨w, rfl, he ▸ hw, by show va_P D vwCl _ t9.heap; rw [ht9]; exact hP⟩, hS.F ht9⟩) hS.2.2 dX3_doSteps_82
    | succ r ih =>
      intro i h1 x w hw hx0 hs hT he H locs ls hP hD hS hl
      obtain ⟨wD, wR, wS, hWD, hWR, hWS, rfl⟩ := hw
      have hl : lv_has ls 3 [(2, .int (nI i)), (0, .ref (o 0)), (1, .int (nI k))] := hl
      have hP : va_P D vwCl (((o 0), .inr (3, [.ref (o 1), .ref (o 2), .ref (o 6), .ref (o 11), .int (nI (sT x)), .int (nI ev), .int (sd x)])) :: ((o 1), .inl (cF, n, .inr (.inr (.inl (sc x))))) :: (wD ++ (wR ++ wS))) H := hP
      have hD : va_D A (((o 0), .inr (3, [.ref (o 1), .ref (o 2), .ref (o 6), .ref (o 11), .int (nI (sT x)), .int (nI ev), .int (sd x)])) :: ((o 1), .inl (cF, n, .inr (.inr (.inl (sc x))))) :: (wD ++ (wR ++ wS))) := hD
      have hn9 := hx0.1.2
      have hev9 := hx0.2.1
      have hcf : cfin (sc x) := hx0.2.2.2.1
      have hT9 : sT x < 2 ^ 29 := hx0.2.2.2.2.1
      have hL9 : rIn n (sL x) := hx0.2.2.2.2.2.1
      have hS9 : sGood (sS x) := hx0.2.2.2.2.2.2.1
      have hT1 : sT x + 1 < 2 ^ 29 := by omega
      refine lv_iload_n hx hb dX3_doSteps_2 rfl (lv_at hl 0 rfl) ?_
      refine lv_iload_n hx hb dX3_doSteps_3 rfl (lv_at hl 2 rfl) ?_
      refine lv_icmp_ge (tgt := 82) hx hb dX3_doSteps_4 (by decide) (fun c1 => absurd c1 (nI_ge (by omega) (by omega))) (fun c1 => ?_)
      obtain ⟨g1, g2, g3, g4, hrec, rfl⟩ := id hWR
      refine lv_aload_n hx hb dX3_doSteps_7 rfl (lv_at hl 1 rfl) ?_
      refine va_get (D := D) (ci := 3) (v := .ref (o 6)) (C := RX3) (T := TX3) (N := 7) hx hb hts hiX3 hown hK hP 0 rfl rfl 2 (by decide) (hts (.fieldLink RX3 23 "StateKeeper" "inputRecord" "LStateKeeper$InputRecord;") (List.mem_of_getElem? (i := 1) rfl)) (fun _ h9 => h9) rfl dX3_doSteps_8 ?_
      refine lv_aload_n hx hb dX3_doSteps_11 rfl (lv_at hl 1 rfl) ?_
      refine va_get (D := D) (ci := 3) (v := .int (nI (sT x))) (C := RX3) (T := TX3) (N := 7) hx hb hts hiX3 hown hK hP 0 rfl rfl 4 (by decide) (hts (.fieldLink RX3 57 "StateKeeper" "present" "I") (List.mem_of_getElem? (i := 2) rfl)) (fun _ h9 => h9) rfl dX3_doSteps_12 ?_
      refine lv_aload_n hx hb dX3_doSteps_15 rfl (lv_at hl 1 rfl) ?_
      refine va_get (D := D) (ci := 3) (v := .ref (o 1)) (C := RX3) (T := TX3) (N := 7) hx hb hts hiX3 hown hK hP 0 rfl rfl 0 (by decide) (hts (.fieldLink RX3 9 "StateKeeper" "cells" "[F") (List.mem_of_getElem? (i := 3) rfl)) (fun _ h9 => h9) rfl dX3_doSteps_16 ?_
      have hPc : va_P D vwCl (((o 1), .inl (cF, n, .inr (.inr (.inl (sc x))))) :: (recW cI cF o (sL x).length g1 g2 g3 g4)) _ := lz_cutP (sk_pCR ((o 0), .inr (3, [.ref (o 1), .ref (o 2), .ref (o 6), .ref (o 11), .int (nI (sT x)), .int (nI ev), .int (sd x)])) ((o 1), .inl (cF, n, .inr (.inr (.inl (sc x))))) wD (recW cI cF o (sL x).length g1 g2 g3 g4) wS) hP
      have hDc : va_D A (((o 1), .inl (cF, n, .inr (.inr (.inl (sc x))))) :: (recW cI cF o (sL x).length g1 g2 g3 g4)) := lz_cutD (sk_pCR ((o 0), .inr (3, [.ref (o 1), .ref (o 2), .ref (o 6), .ref (o 11), .int (nI (sT x)), .int (nI ev), .int (sd x)])) ((o 1), .inl (cF, n, .inr (.inr (.inl (sc x))))) wD (recW cI cF o (sL x).length g1 g2 g3 g4) wS) hD
      refine lz_cMv (w2 := fun w1 => w1 ++ (((o 0), .inr (3, [.ref (o 1), .ref (o 2), .ref (o 6), .ref (o 11), .int (nI (sT x)), .int (nI ev), .int (sd x)])) :: (wD ++ wS))) (lz_runVN (C := RX1) (As := [.int (nI (sT x)), .ref (o 1)]) (rest := []) hC hS hl (c_X1_putIn hrec hs hL9 (show sT x < 2 ^ 30 by omega) hn9 hcf) ⟨va_cnB 2 hts gX3_doSteps_X1_putIn_n159 rfl rfl rfl (hnm (RX3, 159, yX1_putIn) (by decide)) (hts (.initialized RX1) (List.mem_of_getElem? (i := 8) rfl)) (by decide +kernel) ⟨Nat.le_of_ble_eq_true rfl, Nat.le_of_ble_eq_true rfl⟩, (hts (.instanceMethod yX1_putIn) (List.mem_of_getElem? (i := 7) rfl)), (hts (.selects RX1 yX1_putIn yX1_putIn) (List.mem_of_getElem? (i := 9) rfl))⟩ hPc hDc (va_recv hK hPc (ci := 1) (q0 := 1) rfl rfl) rfl rfl (Nat.le_of_ble_eq_true rfl) dX3_doSteps_19 ⟨Nat.le_of_ble_eq_true rfl, Nat.le_of_ble_eq_true rfl⟩) hP hD hS hA (sk_pCR ((o 0), .inr (3, [.ref (o 1), .ref (o 2), .ref (o 6), .ref (o 11), .int (nI (sT x)), .int (nI ev), .int (sd x)])) ((o 1), .inl (cF, n, .inr (.inr (.inl (sc x))))) wD (recW cI cF o (sL x).length g1 g2 g3 g4) wS) (fun w1 h => by rw [h]; rfl) (fun _ => List.Perm.refl _) (fun w1 H locs hpo hP hD hS => ?_)
      obtain rfl := hpo
      replace hP := lz_permP (sk_pCR ((o 0), .inr (3, [.ref (o 1), .ref (o 2), .ref (o 6), .ref (o 11), .int (nI (sT x)), .int (nI ev), .int (sd x)])) ((o 1), .inl (cF, n, .inr (.inr (.inl (((sL x).filter (fun e => decide ((e.1 : Int) = (sT x : Int)))).foldl actC (sc x)))))) wD (recW cI cF o (sL x).length g1 g2 g3 g4) wS).symm hP
      replace hD := lz_permD (sk_pCR ((o 0), .inr (3, [.ref (o 1), .ref (o 2), .ref (o 6), .ref (o 11), .int (nI (sT x)), .int (nI ev), .int (sd x)])) ((o 1), .inl (cF, n, .inr (.inr (.inl (((sL x).filter (fun e => decide ((e.1 : Int) = (sT x : Int)))).foldl actC (sc x)))))) wD (recW cI cF o (sL x).length g1 g2 g3 g4) wS).symm hD
      have hP : va_P D vwCl (((o 0), .inr (3, [.ref (o 1), .ref (o 2), .ref (o 6), .ref (o 11), .int (nI (sT x)), .int (nI ev), .int (sd x)])) :: ((o 1), .inl (cF, n, .inr (.inr (.inl (((sL x).filter (fun e => decide ((e.1 : Int) = (sT x : Int)))).foldl actC (sc x)))))) :: (wD ++ ((recW cI cF o (sL x).length g1 g2 g3 g4) ++ wS))) H := hP
      have hD : va_D A (((o 0), .inr (3, [.ref (o 1), .ref (o 2), .ref (o 6), .ref (o 11), .int (nI (sT x)), .int (nI ev), .int (sd x)])) :: ((o 1), .inl (cF, n, .inr (.inr (.inl (((sL x).filter (fun e => decide ((e.1 : Int) = (sT x : Int)))).foldl actC (sc x)))))) :: (wD ++ ((recW cI cF o (sL x).length g1 g2 g3 g4) ++ wS))) := hD
      have hcf1 : cfin (((sL x).filter (fun e => decide ((e.1 : Int) = (sT x : Int)))).foldl actC (sc x)) := acts_fin (fun e he => (hL9.2 e (List.mem_filter.mp he).1).2.2.2) hcf
      obtain ⟨d1, d2, d3, hdr, rfl⟩ := id hWD
      refine lv_aload_n hx hb dX3_doSteps_22 rfl (lv_at hl 1 rfl) ?_
      refine va_get (D := D) (ci := 3) (v := .ref (o 2)) (C := RX3) (T := TX3) (N := 7) hx hb hts hiX3 hown hK hP 0 rfl rfl 1 (by decide) (hts (.fieldLink RX3 16 "StateKeeper" "driftList" "LStateKeeper$Drifts;") (List.mem_of_getElem? (i := 4) rfl)) (fun _ h9 => h9) rfl dX3_doSteps_23 ?_
      refine lv_aload_n hx hb dX3_doSteps_26 rfl (lv_at hl 1 rfl) ?_
      refine va_get (D := D) (ci := 3) (v := .ref (o 1)) (C := RX3) (T := TX3) (N := 7) hx hb hts hiX3 hown hK hP 0 rfl rfl 0 (by decide) (hts (.fieldLink RX3 9 "StateKeeper" "cells" "[F") (List.mem_of_getElem? (i := 3) rfl)) (fun _ h9 => h9) rfl dX3_doSteps_27 ?_
      have hPc : va_P D vwCl (((o 1), .inl (cF, n, .inr (.inr (.inl (((sL x).filter (fun e => decide ((e.1 : Int) = (sT x : Int)))).foldl actC (sc x)))))) :: (drW cI cF o R.length d1 d2 d3)) _ := lz_cutP (sk_pCD ((o 0), .inr (3, [.ref (o 1), .ref (o 2), .ref (o 6), .ref (o 11), .int (nI (sT x)), .int (nI ev), .int (sd x)])) ((o 1), .inl (cF, n, .inr (.inr (.inl (((sL x).filter (fun e => decide ((e.1 : Int) = (sT x : Int)))).foldl actC (sc x)))))) (drW cI cF o R.length d1 d2 d3) (recW cI cF o (sL x).length g1 g2 g3 g4) wS) hP
      have hDc : va_D A (((o 1), .inl (cF, n, .inr (.inr (.inl (((sL x).filter (fun e => decide ((e.1 : Int) = (sT x : Int)))).foldl actC (sc x)))))) :: (drW cI cF o R.length d1 d2 d3)) := lz_cutD (sk_pCD ((o 0), .inr (3, [.ref (o 1), .ref (o 2), .ref (o 6), .ref (o 11), .int (nI (sT x)), .int (nI ev), .int (sd x)])) ((o 1), .inl (cF, n, .inr (.inr (.inl (((sL x).filter (fun e => decide ((e.1 : Int) = (sT x : Int)))).foldl actC (sc x)))))) (drW cI cF o R.length d1 d2 d3) (recW cI cF o (sL x).length g1 g2 g3 g4) wS) hD
      refine lz_cMv (w2 := fun w1 => w1 ++ (((o 0), .inr (3, [.ref (o 1), .ref (o 2), .ref (o 6), .ref (o 11), .int (nI (sT x)), .int (nI ev), .int (sd x)])) :: ((recW cI cF o (sL x).length g1 g2 g3 g4) ++ wS))) (lz_runVN (C := RX0) (As := [.ref (o 1)]) (rest := []) hC hS hl (c_X0_flow hdr hx0.2.2.1 hn9 hcf1) ⟨va_cnB 1 hts gX3_doSteps_X0_flow_n163 rfl rfl rfl (hnm (RX3, 163, yX0_flow) (by decide)) (hts (.initialized RX0) (List.mem_of_getElem? (i := 29) rfl)) (by decide +kernel) ⟨Nat.le_of_ble_eq_true rfl, Nat.le_of_ble_eq_true rfl⟩, (hts (.instanceMethod yX0_flow) (List.mem_of_getElem? (i := 28) rfl)), (hts (.selects RX0 yX0_flow yX0_flow) (List.mem_of_getElem? (i := 30) rfl))⟩ hPc hDc (va_recv hK hPc (ci := 0) (q0 := 1) rfl rfl) rfl rfl (Nat.le_of_ble_eq_true rfl) dX3_doSteps_30 ⟨Nat.le_of_ble_eq_true rfl, Nat.le_of_ble_eq_true rfl⟩) hP hD hS hA (sk_pCD ((o 0), .inr (3, [.ref (o 1), .ref (o 2), .ref (o 6), .ref (o 11), .int (nI (sT x)), .int (nI ev), .int (sd x)])) ((o 1), .inl (cF, n, .inr (.inr (.inl (((sL x).filter (fun e => decide ((e.1 : Int) = (sT x : Int)))).foldl actC (sc x)))))) (drW cI cF o R.length d1 d2 d3) (recW cI cF o (sL x).length g1 g2 g3 g4) wS) (fun w1 h => by rw [h]; rfl) (fun _ => List.Perm.refl _) (fun w1 H locs hpo hP hD hS => ?_)
      obtain rfl := hpo
      replace hP := lz_permP (sk_pCD ((o 0), .inr (3, [.ref (o 1), .ref (o 2), .ref (o 6), .ref (o 11), .int (nI (sT x)), .int (nI ev), .int (sd x)])) ((o 1), .inl (cF, n, .inr (.inr (.inl (stc R x))))) (drW cI cF o R.length d1 d2 d3) (recW cI cF o (sL x).length g1 g2 g3 g4) wS).symm hP
      replace hD := lz_permD (sk_pCD ((o 0), .inr (3, [.ref (o 1), .ref (o 2), .ref (o 6), .ref (o 11), .int (nI (sT x)), .int (nI ev), .int (sd x)])) ((o 1), .inl (cF, n, .inr (.inr (.inl (stc R x))))) (drW cI cF o R.length d1 d2 d3) (recW cI cF o (sL x).length g1 g2 g3 g4) wS).symm hD
      have hP : va_P D vwCl (((o 0), .inr (3, [.ref (o 1), .ref (o 2), .ref (o 6), .ref (o 11), .int (nI (sT x)), .int (nI ev), .int (sd x)])) :: ((o 1), .inl (cF, n, .inr (.inr (.inl (stc R x))))) :: ((drW cI cF o R.length d1 d2 d3) ++ ((recW cI cF o (sL x).length g1 g2 g3 g4) ++ wS))) H := hP
      have hD : va_D A (((o 0), .inr (3, [.ref (o 1), .ref (o 2), .ref (o 6), .ref (o 11), .int (nI (sT x)), .int (nI ev), .int (sd x)])) :: ((o 1), .inl (cF, n, .inr (.inr (.inl (stc R x))))) :: ((drW cI cF o R.length d1 d2 d3) ++ ((recW cI cF o (sL x).length g1 g2 g3 g4) ++ wS))) := hD
      refine lv_aload_n hx hb dX3_doSteps_33 rfl (lv_at hl 1 rfl) ?_
      refine lv_dup hx hb dX3_doSteps_34 rfl ?_
      refine va_get (D := D) (ci := 3) (v := .int (nI (sT x))) (C := RX3) (T := TX3) (N := 7) hx hb hts hiX3 hown hK hP 0 rfl rfl 4 (by decide) (hts (.fieldLink RX3 57 "StateKeeper" "present" "I") (List.mem_of_getElem? (i := 2) rfl)) (fun _ h9 => h9) rfl dX3_doSteps_35 ?_
      refine lv_iconst (v := nI 1) hx hb dX3_doSteps_38 (by decide) ?_
      refine lv_iadd hx hb dX3_doSteps_39 ?_
      refine lz_i (nI_add _ _) ?_
      refine va_put (D := D) (ci := 3) (v := .int (nI ((sT x) + 1))) (ty := .int) (C := RX3) (T := TX3) (N := 7) hx hb hts hiX3 tyX3 tyX3_ok nmX3 hown hK hP hD hS 0 rfl rfl 4 (by decide) (hts (.fieldLink RX3 57 "StateKeeper" "present" "I") (List.mem_of_getElem? (i := 2) rfl)) (fun _ h9 => h9) rfl (by decide +kernel) rfl rfl (Nat.le_of_ble_eq_true rfl) dX3_doSteps_40 (fun H locs hP hD hS => ?_)
      have hP : va_P D vwCl (((o 0), .inr (3, [.ref (o 1), .ref (o 2), .ref (o 6), .ref (o 11), .int (nI ((sT x) + 1)), .int (nI ev), .int (sd x)])) :: ((o 1), .inl (cF, n, .inr (.inr (.inl (stc R x))))) :: ((drW cI cF o R.length d1 d2 d3) ++ ((recW cI cF o (sL x).length g1 g2 g3 g4) ++ wS))) H := hP
      have hD : va_D A (((o 0), .inr (3, [.ref (o 1), .ref (o 2), .ref (o 6), .ref (o 11), .int (nI ((sT x) + 1)), .int (nI ev), .int (sd x)])) :: ((o 1), .inl (cF, n, .inr (.inr (.inl (stc R x))))) :: ((drW cI cF o R.length d1 d2 d3) ++ ((recW cI cF o (sL x).length g1 g2 g3 g4) ++ wS))) := hD
      refine lv_aload_n hx hb dX3_doSteps_43 rfl (lv_at hl 1 rfl) ?_
      refine lv_dup hx hb dX3_doSteps_44 rfl ?_
      refine va_get (D := D) (ci := 3) (v := .int (sd x)) (C := RX3) (T := TX3) (N := 7) hx hb hts hiX3 hown hK hP 0 rfl rfl 6 (by decide) (hts (.fieldLink RX3 150 "StateKeeper" "stepsDone" "I") (List.mem_of_getElem? (i := 5) rfl)) (fun _ h9 => h9) rfl dX3_doSteps_45 ?_
      refine lv_iconst (v := nI 1) hx hb dX3_doSteps_48 (by decide) ?_
      refine lv_iadd hx hb dX3_doSteps_49 ?_
      refine lz_i (y := sd x + 1) (by show sd x + nI 1 = _; rfl) ?_
      refine va_put (D := D) (ci := 3) (v := .int (sd x + 1)) (ty := .int) (C := RX3) (T := TX3) (N := 7) hx hb hts hiX3 tyX3 tyX3_ok nmX3 hown hK hP hD hS 0 rfl rfl 6 (by decide) (hts (.fieldLink RX3 150 "StateKeeper" "stepsDone" "I") (List.mem_of_getElem? (i := 5) rfl)) (fun _ h9 => h9) rfl (by decide +kernel) rfl rfl (Nat.le_of_ble_eq_true rfl) dX3_doSteps_50 (fun H locs hP hD hS => ?_)
      have hP : va_P D vwCl (((o 0), .inr (3, [.ref (o 1), .ref (o 2), .ref (o 6), .ref (o 11), .int (nI (sT x + 1)), .int (nI ev), .int (sd x + 1)])) :: ((o 1), .inl (cF, n, .inr (.inr (.inl (stc R x))))) :: ((drW cI cF o R.length d1 d2 d3) ++ ((recW cI cF o (sL x).length g1 g2 g3 g4) ++ wS))) H := hP
      have hD : va_D A (((o 0), .inr (3, [.ref (o 1), .ref (o 2), .ref (o 6), .ref (o 11), .int (nI (sT x + 1)), .int (nI ev), .int (sd x + 1)])) :: ((o 1), .inl (cF, n, .inr (.inr (.inl (stc R x))))) :: ((drW cI cF o R.length d1 d2 d3) ++ ((recW cI cF o (sL x).length g1 g2 g3 g4) ++ wS))) := hD
      refine lv_aload_n hx hb dX3_doSteps_53 rfl (lv_at hl 1 rfl) ?_
      refine va_get (D := D) (ci := 3) (v := .int (nI ev)) (C := RX3) (T := TX3) (N := 7) hx hb hts hiX3 hown hK hP 0 rfl rfl 5 (by decide) (hts (.fieldLink RX3 69 "StateKeeper" "interval" "I") (List.mem_of_getElem? (i := 6) rfl)) (fun _ h9 => h9) rfl dX3_doSteps_54 ?_
      refine lv_if_le (tgt := 76) hx hb dX3_doSteps_57 (by decide) (fun c_2 => ?_) (fun c_2 => ?_)
      · have e0 : ¬ (0 < ev ∧ (sT x + 1) % ev = 0) := fun q => absurd ((iz_le_r (a := 0) (by omega)).mp (by exact c_2)) (by rw [nI_toInt (by omega)]; omega)
        have e1 : stp R ev x = (stc R x, sT x + 1, sd x + 1, sL x, sS x) := if_neg e0
        have hw8 : WC cI cF cQ o n ev R (stp R ev x) (((o 0), .inr (3, [.ref (o 1), .ref (o 2), .ref (o 6), .ref (o 11), .int (nI (sT x + 1)), .int (nI ev), .int (sd x + 1)])) :: ((o 1), .inl (cF, n, .inr (.inr (.inl (stc R x))))) :: ((drW cI cF o R.length d1 d2 d3) ++ ((recW cI cF o (sL x).length g1 g2 g3 g4) ++ wS))) := by rw [e1]; exact ⟨(drW cI cF o R.length d1 d2 d3), (recW cI cF o (sL x).length g1 g2 g3 g4), wS, hWD, hWR, hWS, rfl⟩
        refine lv_iinc (v := nI (i + 1)) (lv' := [(2, .int (nI (i + 1))), (0, .ref (o 0)), (1, .int (nI k))]) hx hb dX3_doSteps_76 hl (k := 0) rfl (nI_add _ 1) (by decide) rfl (fun ls hl => ?_)
        refine lv_goto (tgt := 2) hx hb dX3_doSteps_79 (by decide) ?_
        exact ih (i + 1) (by omega) _ _ hw8 (stp_ok hx0 hT1) (stp_srt hs) (by rw [stp_T]; omega) he H locs ls hP hD hS (lv_sub hl [0, 1, 2] rfl)
      · have hev : 0 < ev := Nat.pos_of_ne_zero (fun q => c_2 (by rw [q]; decide))
        refine lv_aload_n hx hb dX3_doSteps_60 rfl (lv_at hl 1 rfl) ?_
        refine va_get (D := D) (ci := 3) (v := .int (nI (sT x + 1))) (C := RX3) (T := TX3) (N := 7) hx hb hts hiX3 hown hK hP 0 rfl rfl 4 (by decide) (hts (.fieldLink RX3 57 "StateKeeper" "present" "I") (List.mem_of_getElem? (i := 2) rfl)) (fun _ h9 => h9) rfl dX3_doSteps_61 ?_
        refine lv_aload_n hx hb dX3_doSteps_64 rfl (lv_at hl 1 rfl) ?_
        refine va_get (D := D) (ci := 3) (v := .int (nI ev)) (C := RX3) (T := TX3) (N := 7) hx hb hts hiX3 hown hK hP 0 rfl rfl 5 (by decide) (hts (.fieldLink RX3 69 "StateKeeper" "interval" "I") (List.mem_of_getElem? (i := 6) rfl)) (fun _ h9 => h9) rfl dX3_doSteps_65 ?_
        refine lv_irem hx hb dX3_doSteps_68 (fun q => absurd ((iz_ne0 (by omega)).mp q) (by omega)) ?_
        refine lz_i (pk_rem (by omega) (by omega) (by omega)) ?_
        refine lv_if_ne (tgt := 76) hx hb dX3_doSteps_69 (by decide) (fun c_3 => ?_) (fun c_3 => ?_)
        · have e0 : ¬ (0 < ev ∧ (sT x + 1) % ev = 0) := fun q => c_3 ((iz_ne0 (by omega)).mpr q.2)
          have e1 : stp R ev x = (stc R x, sT x + 1, sd x + 1, sL x, sS x) := if_neg e0
          have hw8 : WC cI cF cQ o n ev R (stp R ev x) (((o 0), .inr (3, [.ref (o 1), .ref (o 2), .ref (o 6), .ref (o 11), .int (nI (sT x + 1)), .int (nI ev), .int (sd x + 1)])) :: ((o 1), .inl (cF, n, .inr (.inr (.inl (stc R x))))) :: ((drW cI cF o R.length d1 d2 d3) ++ ((recW cI cF o (sL x).length g1 g2 g3 g4) ++ wS))) := by rw [e1]; exact ⟨(drW cI cF o R.length d1 d2 d3), (recW cI cF o (sL x).length g1 g2 g3 g4), wS, hWD, hWR, hWS, rfl⟩
          refine lv_iinc (v := nI (i + 1)) (lv' := [(2, .int (nI (i + 1))), (0, .ref (o 0)), (1, .int (nI k))]) hx hb dX3_doSteps_76 hl (k := 0) rfl (nI_add _ 1) (by decide) rfl (fun ls hl => ?_)
          refine lv_goto (tgt := 2) hx hb dX3_doSteps_79 (by decide) ?_
          exact ih (i + 1) (by omega) _ _ hw8 (stp_ok hx0 hT1) (stp_srt hs) (by rw [stp_T]; omega) he H locs ls hP hD hS (lv_sub hl [0, 1, 2] rfl)
        · have e0 : 0 < ev ∧ (sT x + 1) % ev = 0 := ⟨hev, (iz_ne0 (Nat.lt_trans (Nat.mod_lt _ hev) (by omega))).mp c_3⟩
          have e1 : stp R ev x = kp (stc R x, sT x + 1, sd x + 1, sL x, sS x) := if_pos e0
          refine lv_aload_n hx hb dX3_doSteps_72 rfl (lv_at hl 1 rfl) ?_
          have hw9 : WC cI cF cQ o n ev R (stc R x, sT x + 1, sd x + 1, sL x, sS x) (((o 0), .inr (3, [.ref (o 1), .ref (o 2), .ref (o 6), .ref (o 11), .int (nI (sT x + 1)), .int (nI ev), .int (sd x + 1)])) :: ((o 1), .inl (cF, n, .inr (.inr (.inl (stc R x))))) :: ((drW cI cF o R.length d1 d2 d3) ++ ((recW cI cF o (sL x).length g1 g2 g3 g4) ++ wS))) := ⟨(drW cI cF o R.length d1 d2 d3), (recW cI cF o (sL x).length g1 g2 g3 g4), wS, hWD, hWR, hWS, rfl⟩
          refine lz_cMv0 (lz_runV (C := RX3) (As := []) (rest := []) hC hS hl (c_X3_keepPresent hw9 (stp1_ok hx0 hT1) hs) (cwV 0 hts gX3_doSteps_X3_keepPresent rfl rfl rfl (by decide +kernel) ⟨Nat.le_of_ble_eq_true rfl, Nat.le_of_ble_eq_true rfl⟩) hP hD (va_recv hK hP (ci := 3) (q0 := 0) rfl rfl) rfl rfl (Nat.le_of_ble_eq_true rfl) dX3_doSteps_73 ⟨Nat.le_of_ble_eq_true rfl, Nat.le_of_ble_eq_true rfl⟩) hD hS hA (fun w1 h => h.ad2 hw9) (fun w1 H locs hpo hP hD hS => ?_)
          have hw7 := hpo
          have hw8 : WC cI cF cQ o n ev R (stp R ev x) w1 := by rw [e1]; exact hw7
          refine lv_iinc (v := nI (i + 1)) (lv' := [(2, .int (nI (i + 1))), (0, .ref (o 0)), (1, .int (nI k))]) hx hb dX3_doSteps_76 hl (k := 0) rfl (nI_add _ 1) (by decide) rfl (fun ls hl => ?_)
          refine lv_goto (tgt := 2) hx hb dX3_doSteps_79 (by decide) ?_
          exact ih (i + 1) (by omega) _ _ hw8 (stp_ok hx0 hT1) (stp_srt hs) (by rw [stp_T]; omega) he H locs ls hP hD hS (lv_sub hl [0, 1, 2] rfl)
  exact loop k 0 (by omega) x _ hw hx0 hs hT1 rfl s.heap [] ls hP hD hS hl

theorem lz_fromRow {p : Program} {l : Launch} {e : Env} {R : Room} {s : State} {m : MethodId} {args : Array Value} {below : List Frame} {meth : Method} {c : Code} {H : Heap} {locs : List Loc} {cells slots : Nat} {Q : State → Prop} {cc : ByteArray} {pc : Nat} {ls : Array Slot} {rest : List Value} {D : va_G} {cl : List vw_C} {A : Nat → Prop} {tys : List (ClassId × FieldType)} {H0 : Heap} (hexec : p.tables.exec = Jvm.exec) (hb : c.code = cc) (hml : c.maxLocals = ls.size) {own : String} {index : Nat} (hown : s.vm.findClass own = some m.cls) (hlink : (Cond.methodLink own index arraycopyName).before args s = true) (hnat : (Cond.native arraycopyName).before args s = true) (hstat : (Cond.static arraycopyName).before args s = true) (hini : (Cond.initialized "java/lang/System").before args s = true)
    {a0 n i : Nat} {cF : ClassId} {o : Nat → Nat} {x2 x3 x4 : Nat × va_E} {f : Nat → UInt32} {M : Nat → Nat → UInt32} {wr : va_W} (hK : va_K D cl tys s) (hP : va_P D cl ((a0, .inl (cF, n, .inr (.inr (.inl f)))) :: x2 :: x3 :: x4 :: (rowsL cF o n M) ++ wr) H) (hD : va_D A ((a0, .inl (cF, n, .inr (.inr (.inl f)))) :: x2 :: x3 :: x4 :: (rowsL cF o n M) ++ wr)) (hS : va_S A H0 H locs) (t0 : Nat) (ht : tys[t0]? = some (cF, .float))
    (hi : i < 16) (h6 : n < 2 ^ 31) (hframes : 1 ≤ R.frames) (hlocals : (rest.map fun v => v.category).sum + (nativeFrameWords "java/lang/System" "arraycopy" 5 + 11) ≤ R.locals) (hdg : decode cc pc = .ok (.invokestatic index, 3))
    (kk : ∀ (H1 : Heap) (locs1 : List Loc), va_P D cl ((a0, .inl (cF, n, .inr (.inr (.inl (va_cpy (M i) f 0 0 n))))) :: x2 :: x3 :: x4 :: (rowsL cF o n M) ++ wr) H1 → va_D A ((a0, .inl (cF, n, .inr (.inr (.inl (va_cpy (M i) f 0 0 n))))) :: x2 :: x3 :: x4 :: (rowsL cF o n M) ++ wr) → va_S A H0 H1 locs1 → W p l e R s m args below meth c H1 locs1 cells slots Q (F0 m (pc + 3) ls rest)) : W p l e R s m args below meth c H locs cells slots Q (F0 m pc ls (.int (nI n) :: .int (nI 0) :: .ref a0 :: .int (nI 0) :: .ref (o (14 + i)) :: rest)) := by
  refine lz_copyf hexec hb hml hown hlink hnat hstat hini hK hP hD hS (i + 4) 0 t0 (f := M i) (g := f) (n0 := n) (n1 := n) ?_ rfl ht (by omega) (by omega) h6 h6 hframes hlocals hdg (fun H1 locs1 g1 g2 g3 => kk H1 locs1 g1 g2 g3)
  show (rowsL cF o n M ++ wr)[i]? = _
  rw [List.getElem?_append_left (by unfold rowsL; rw [List.length_map, List.length_range]; exact hi)]
  exact rows_get hi
set_option maxRecDepth 100000 in
set_option maxHeartbeats 4000000 in
/-- goBackTo(k) -/
theorem c_X3_goBackTo {j : Nat} {ee : sE} (hj : (sS x)[j]? = some ee) (hw : WC cI cF cQ o n ev R x w) (hx0 : Ok n ev R x) (hs : srt (sL x)) : Met l yX3_goBackTo wsX3_goBackTo (rmk 2 0 0) (pcW l D cI cF cQ aT [.ref (o 0), .int (nI j)] w sz) (va_Qi (fun (r : Int32) (w1 : va_W) => r = nI ((sS x).length - 1 - j) ∧ WC cI cF cQ o n ev R (gb n x j ee) w1) (fun w1 t => va_P D vwCl w1 t.heap) (va_A w sz)) 0 0 (va_A w sz) := by
  obtain ⟨wD, wR, wS, hWD, hWR, hWS, rfl⟩ := hw
  refine lz_ofM (Qf := fun A => va_Qi (fun (r : Int32) (w1 : va_W) => r = nI ((sS x).length - 1 - j) ∧ WC cI cF cQ o n ev R (gb n x j ee) w1) (fun w1 t => va_P D vwCl w1 t.heap) A) (cc := cX3_goBackTo) (maxL := 2) (ret := (some .int)) (by decide) rfl (Nat.le_of_ble_eq_true rfl) ?_
  intro p e s m below meth c A hAe hsz hx hb hr hlk hin hC hP hD hS ls hl
  clear hAe
  have hts := hC.1.2.2.2.2
  have hown : s.vm.findClass RX3 = some m.cls := hC.1.2.2.2.1
  have hml := hC.1.2.2.1
  have hA := hC.2.1
  have hK := hC.2.2.2.1
  have hnm := hC.2.2.2.2.1
  have hnf := hC.2.2.2.2.2.1
  have hiX3 : ∀ w ∈ u_ws RX3 TX3 7, w ∈ wsX3_goBackTo := fun _ h => List.mem_cons_of_mem _ (List.mem_append_left _ (List.mem_append_right _ h))
  have hl : lv_has ls 2 [(0, .ref (o 0)), (1, .int (nI j))] := hl
  have hn9 := hx0.1.2
  have hev9 := hx0.2.1
  have hcf : cfin (sc x) := hx0.2.2.2.1
  have hT9 : sT x < 2 ^ 29 := hx0.2.2.2.2.1
  have hL9 : rIn n (sL x) := hx0.2.2.2.2.2.1
  have hS9 : sGood (sS x) := hx0.2.2.2.2.2.2.1
  have hjl : j < (sS x).length := (List.getElem?_eq_some_iff.mp hj).1
  have hlen := hS9.2.1
  obtain ⟨a, f1, M, ha, hok, rfl⟩ := id hWS
  refine lv_aload_n hx hb dX3_goBackTo_0 rfl (lv_at hl 0 rfl) ?_
  refine va_get (D := D) (ci := 3) (v := .ref (o 11)) (C := RX3) (T := TX3) (N := 7) hx hb hts hiX3 hown hK hP 0 rfl rfl 3 (by decide) (hts (.fieldLink RX3 32 "StateKeeper" "snapshots" "LStateKeeper$Snapshots;") (List.mem_of_getElem? (i := 1) rfl)) (fun _ h9 => h9) rfl dX3_goBackTo_1 ?_
  refine lv_iload_n hx hb dX3_goBackTo_4 rfl (lv_at hl 1 rfl) ?_
  have hPc : va_P D vwCl (snapW cI cF cQ o n a (sS x).length f1 M) _ := lz_cutP (sk_pS ((o 0), .inr (3, [.ref (o 1), .ref (o 2), .ref (o 6), .ref (o 11), .int (nI (sT x)), .int (nI ev), .int (sd x)])) ((o 1), .inl (cF, n, .inr (.inr (.inl (sc x))))) wD wR (snapW cI cF cQ o n a (sS x).length f1 M)) hP
  have hDc : va_D A (snapW cI cF cQ o n a (sS x).length f1 M) := lz_cutD (sk_pS ((o 0), .inr (3, [.ref (o 1), .ref (o 2), .ref (o 6), .ref (o 11), .int (nI (sT x)), .int (nI ev), .int (sd x)])) ((o 1), .inl (cF, n, .inr (.inr (.inl (sc x))))) wD wR (snapW cI cF cQ o n a (sS x).length f1 M)) hD
  refine va_csr (lz_runVN (C := RX2) (As := [.int (nI j)]) (rest := []) hC hS hl (c_X2_row (k := (sS x).length) ha (by omega)) ⟨va_cnB 1 hts gX3_goBackTo_X2_row_n122 rfl rfl rfl (hnm (RX3, 122, yX2_row) (by decide)) (hts (.initialized RX2) (List.mem_of_getElem? (i := 9) rfl)) (by decide +kernel) ⟨Nat.le_of_ble_eq_true rfl, Nat.le_of_ble_eq_true rfl⟩, (hts (.instanceMethod yX2_row) (List.mem_of_getElem? (i := 8) rfl)), (hts (.selects RX2 yX2_row yX2_row) (List.mem_of_getElem? (i := 10) rfl))⟩ hPc hDc (va_recv hK hPc (ci := 2) (q0 := 0) rfl rfl) rfl rfl (Nat.le_of_ble_eq_true rfl) dX3_goBackTo_5 ⟨Nat.le_of_ble_eq_true rfl, Nat.le_of_ble_eq_true rfl⟩).run (fun q9 hq9 => ?_)
  subst hq9
  refine lv_iconst (v := nI 0) hx hb dX3_goBackTo_8 (by decide) ?_
  refine lv_aload_n hx hb dX3_goBackTo_9 rfl (lv_at hl 0 rfl) ?_
  refine va_get (D := D) (ci := 3) (v := .ref (o 1)) (C := RX3) (T := TX3) (N := 7) hx hb hts hiX3 hown hK hP 0 rfl rfl 0 (by decide) (hts (.fieldLink RX3 9 "StateKeeper" "cells" "[F") (List.mem_of_getElem? (i := 2) rfl)) (fun _ h9 => h9) rfl dX3_goBackTo_10 ?_
  refine lv_iconst (v := nI 0) hx hb dX3_goBackTo_13 (by decide) ?_
  refine lv_aload_n hx hb dX3_goBackTo_14 rfl (lv_at hl 0 rfl) ?_
  refine va_get (D := D) (ci := 3) (v := .ref (o 1)) (C := RX3) (T := TX3) (N := 7) hx hb hts hiX3 hown hK hP 0 rfl rfl 0 (by decide) (hts (.fieldLink RX3 9 "StateKeeper" "cells" "[F") (List.mem_of_getElem? (i := 2) rfl)) (fun _ h9 => h9) rfl dX3_goBackTo_15 ?_
  refine va_alen (v := nI n) hx hb hK hP 1 0 rfl rfl rfl dX3_goBackTo_18 ?_
  have hlt : (a + j) % 16 < 16 := Nat.mod_lt _ (by decide)
  replace hP := lz_permP (sk_pCS ((o 0), .inr (3, [.ref (o 1), .ref (o 2), .ref (o 6), .ref (o 11), .int (nI (sT x)), .int (nI ev), .int (sd x)])) ((o 1), .inl (cF, n, .inr (.inr (.inl (sc x))))) wD wR (snapW cI cF cQ o n a (sS x).length f1 M)) hP
  replace hD := lz_permD (sk_pCS ((o 0), .inr (3, [.ref (o 1), .ref (o 2), .ref (o 6), .ref (o 11), .int (nI (sT x)), .int (nI ev), .int (sd x)])) ((o 1), .inl (cF, n, .inr (.inr (.inl (sc x))))) wD wR (snapW cI cF cQ o n a (sS x).length f1 M)) hD
  refine lz_fromRow hx hb (hml.trans hl.1.symm) hown (hts (.methodLink RX3 174 arraycopyName) (List.mem_of_getElem? (i := 3) rfl)) (hts (.native arraycopyName) (List.mem_of_getElem? (i := 4) rfl)) (hts (.static arraycopyName) (List.mem_of_getElem? (i := 5) rfl)) (hts (.initialized "java/lang/System") (List.mem_of_getElem? (i := 6) rfl)) hK hP hD hS 0 rfl hlt (by omega) (Nat.le_of_ble_eq_true rfl) (Nat.le_of_ble_eq_true rfl) dX3_goBackTo_19 (fun H locs hP hD hS => ?_)
  replace hP := lz_permP (sk_pCS ((o 0), .inr (3, [.ref (o 1), .ref (o 2), .ref (o 6), .ref (o 11), .int (nI (sT x)), .int (nI ev), .int (sd x)])) ((o 1), .inl (cF, n, .inr (.inr (.inl (va_cpy (M ((a + j) % 16)) (sc x) 0 0 n))))) wD wR (snapW cI cF cQ o n a (sS x).length f1 M)).symm hP
  replace hD := lz_permD (sk_pCS ((o 0), .inr (3, [.ref (o 1), .ref (o 2), .ref (o 6), .ref (o 11), .int (nI (sT x)), .int (nI ev), .int (sd x)])) ((o 1), .inl (cF, n, .inr (.inr (.inl (va_cpy (M ((a + j) % 16)) (sc x) 0 0 n))))) wD wR (snapW cI cF cQ o n a (sS x).length f1 M)).symm hD
  have hP : va_P D vwCl (((o 0), .inr (3, [.ref (o 1), .ref (o 2), .ref (o 6), .ref (o 11), .int (nI (sT x)), .int (nI ev), .int (sd x)])) :: ((o 1), .inl (cF, n, .inr (.inr (.inl (va_cpy (M ((a + j) % 16)) (sc x) 0 0 n))))) :: (wD ++ (wR ++ (snapW cI cF cQ o n a (sS x).length f1 M)))) H := hP
  have hD : va_D A (((o 0), .inr (3, [.ref (o 1), .ref (o 2), .ref (o 6), .ref (o 11), .int (nI (sT x)), .int (nI ev), .int (sd x)])) :: ((o 1), .inl (cF, n, .inr (.inr (.inl (va_cpy (M ((a + j) % 16)) (sc x) 0 0 n))))) :: (wD ++ (wR ++ (snapW cI cF cQ o n a (sS x).length f1 M)))) := hD
  refine lv_aload_n hx hb dX3_goBackTo_22 rfl (lv_at hl 0 rfl) ?_
  refine lv_aload_n hx hb dX3_goBackTo_23 rfl (lv_at hl 0 rfl) ?_
  refine va_get (D := D) (ci := 3) (v := .ref (o 11)) (C := RX3) (T := TX3) (N := 7) hx hb hts hiX3 hown hK hP 0 rfl rfl 3 (by decide) (hts (.fieldLink RX3 32 "StateKeeper" "snapshots" "LStateKeeper$Snapshots;") (List.mem_of_getElem? (i := 1) rfl)) (fun _ h9 => h9) rfl dX3_goBackTo_24 ?_
  refine lv_iload_n hx hb dX3_goBackTo_27 rfl (lv_at hl 1 rfl) ?_
  have hPc : va_P D vwCl (snapW cI cF cQ o n a (sS x).length f1 M) _ := lz_cutP (sk_pS ((o 0), .inr (3, [.ref (o 1), .ref (o 2), .ref (o 6), .ref (o 11), .int (nI (sT x)), .int (nI ev), .int (sd x)])) ((o 1), .inl (cF, n, .inr (.inr (.inl (va_cpy (M ((a + j) % 16)) (sc x) 0 0 n))))) wD wR (snapW cI cF cQ o n a (sS x).length f1 M)) hP
  have hDc : va_D A (snapW cI cF cQ o n a (sS x).length f1 M) := lz_cutD (sk_pS ((o 0), .inr (3, [.ref (o 1), .ref (o 2), .ref (o 6), .ref (o 11), .int (nI (sT x)), .int (nI ev), .int (sd x)])) ((o 1), .inl (cF, n, .inr (.inr (.inl (va_cpy (M ((a + j) % 16)) (sc x) 0 0 n))))) wD wR (snapW cI cF cQ o n a (sS x).length f1 M)) hD
  refine vp_callSi (lz_runVN (C := RX2) (As := [.int (nI j)]) (rest := [.ref (o 0)]) hC hS hl (c_X2_stepOf (k := (sS x).length) ha (by omega)) ⟨va_cnB 1 hts gX3_goBackTo_X2_stepOf_n131 rfl rfl rfl (hnm (RX3, 131, yX2_stepOf) (by decide)) (hts (.initialized RX2) (List.mem_of_getElem? (i := 9) rfl)) (by decide +kernel) ⟨Nat.le_of_ble_eq_true rfl, Nat.le_of_ble_eq_true rfl⟩, (hts (.instanceMethod yX2_stepOf) (List.mem_of_getElem? (i := 18) rfl)), (hts (.selects RX2 yX2_stepOf yX2_stepOf) (List.mem_of_getElem? (i := 19) rfl))⟩ hPc hDc (va_recv hK hPc (ci := 2) (q0 := 0) rfl rfl) rfl rfl (Nat.le_of_ble_eq_true rfl) dX3_goBackTo_28 ⟨Nat.le_of_ble_eq_true rfl, Nat.le_of_ble_eq_true rfl⟩).run (fun r_1 er_1 => ?_)
  subst er_1
  refine lz_i (y := nI ee.1) (hok j ee hj).1 ?_
  refine va_put (D := D) (ci := 3) (v := .int (nI ee.1)) (ty := .int) (C := RX3) (T := TX3) (N := 7) hx hb hts hiX3 tyX3 tyX3_ok nmX3 hown hK hP hD hS 0 rfl rfl 4 (by decide) (hts (.fieldLink RX3 57 "StateKeeper" "present" "I") (List.mem_of_getElem? (i := 7) rfl)) (fun _ h9 => h9) rfl (by decide +kernel) rfl rfl (Nat.le_of_ble_eq_true rfl) dX3_goBackTo_31 (fun H locs hP hD hS => ?_)
  have hP : va_P D vwCl (((o 0), .inr (3, [.ref (o 1), .ref (o 2), .ref (o 6), .ref (o 11), .int (nI ee.1), .int (nI ev), .int (sd x)])) :: ((o 1), .inl (cF, n, .inr (.inr (.inl (va_cpy (M ((a + j) % 16)) (sc x) 0 0 n))))) :: (wD ++ (wR ++ (snapW cI cF cQ o n a (sS x).length f1 M)))) H := hP
  have hD : va_D A (((o 0), .inr (3, [.ref (o 1), .ref (o 2), .ref (o 6), .ref (o 11), .int (nI ee.1), .int (nI ev), .int (sd x)])) :: ((o 1), .inl (cF, n, .inr (.inr (.inl (va_cpy (M ((a + j) % 16)) (sc x) 0 0 n))))) :: (wD ++ (wR ++ (snapW cI cF cQ o n a (sS x).length f1 M)))) := hD
  refine lv_aload_n hx hb dX3_goBackTo_34 rfl (lv_at hl 0 rfl) ?_
  refine va_get (D := D) (ci := 3) (v := .ref (o 11)) (C := RX3) (T := TX3) (N := 7) hx hb hts hiX3 hown hK hP 0 rfl rfl 3 (by decide) (hts (.fieldLink RX3 32 "StateKeeper" "snapshots" "LStateKeeper$Snapshots;") (List.mem_of_getElem? (i := 1) rfl)) (fun _ h9 => h9) rfl dX3_goBackTo_35 ?_
  refine lv_iload_n hx hb dX3_goBackTo_38 rfl (lv_at hl 1 rfl) ?_
  have hcc : va_cpy (M ((a + j) % 16)) (sc x) 0 0 n = va_cpy ee.2 (sc x) 0 0 n := by
    funext i9
    unfold va_cpy
    split
    · next h9 => rw [(hok j ee hj).2 (0 + (i9 - 0)) (by omega)]
    · rfl
  have hPc : va_P D vwCl (snapW cI cF cQ o n a (sS x).length f1 M) _ := lz_cutP (sk_pS ((o 0), .inr (3, [.ref (o 1), .ref (o 2), .ref (o 6), .ref (o 11), .int (nI ee.1), .int (nI ev), .int (sd x)])) ((o 1), .inl (cF, n, .inr (.inr (.inl (va_cpy (M ((a + j) % 16)) (sc x) 0 0 n))))) wD wR (snapW cI cF cQ o n a (sS x).length f1 M)) hP
  have hDc : va_D A (snapW cI cF cQ o n a (sS x).length f1 M) := lz_cutD (sk_pS ((o 0), .inr (3, [.ref (o 1), .ref (o 2), .ref (o 6), .ref (o 11), .int (nI ee.1), .int (nI ev), .int (sd x)])) ((o 1), .inl (cF, n, .inr (.inr (.inl (va_cpy (M ((a + j) % 16)) (sc x) 0 0 n))))) wD wR (snapW cI cF cQ o n a (sS x).length f1 M)) hD
  refine lz_cMi (w2 := fun w1 => w1 ++ (((o 0), .inr (3, [.ref (o 1), .ref (o 2), .ref (o 6), .ref (o 11), .int (nI ee.1), .int (nI ev), .int (sd x)])) :: ((o 1), .inl (cF, n, .inr (.inr (.inl (va_cpy (M ((a + j) % 16)) (sc x) 0 0 n))))) :: (wD ++ wR))) (lz_runVN (C := RX2) (As := [.int (nI j)]) (rest := []) hC hS hl (c_X2_dropBehind ha hok hS9 hjl) ⟨va_cnB 1 hts gX3_goBackTo_X2_dropBehind_n180 rfl rfl rfl (hnm (RX3, 180, yX2_dropBehind) (by decide)) (hts (.initialized RX2) (List.mem_of_getElem? (i := 9) rfl)) (by decide +kernel) ⟨Nat.le_of_ble_eq_true rfl, Nat.le_of_ble_eq_true rfl⟩, (hts (.instanceMethod yX2_dropBehind) (List.mem_of_getElem? (i := 22) rfl)), (hts (.selects RX2 yX2_dropBehind yX2_dropBehind) (List.mem_of_getElem? (i := 23) rfl))⟩ hPc hDc (va_recv hK hPc (ci := 2) (q0 := 0) rfl rfl) rfl rfl (Nat.le_of_ble_eq_true rfl) dX3_goBackTo_39 ⟨Nat.le_of_ble_eq_true rfl, Nat.le_of_ble_eq_true rfl⟩) hP hD hS hA (sk_pS ((o 0), .inr (3, [.ref (o 1), .ref (o 2), .ref (o 6), .ref (o 11), .int (nI ee.1), .int (nI ev), .int (sd x)])) ((o 1), .inl (cF, n, .inr (.inr (.inl (va_cpy (M ((a + j) % 16)) (sc x) 0 0 n))))) wD wR (snapW cI cF cQ o n a (sS x).length f1 M)) (fun r w1 h => h.2.ad2 hWS) (fun _ => List.Perm.refl _) (fun r_2 w1 H locs hpo hP hD hS => ?_)
  obtain ⟨hr1, hWS2⟩ := hpo
  subst hr1
  replace hP := lz_permP (sk_pS ((o 0), .inr (3, [.ref (o 1), .ref (o 2), .ref (o 6), .ref (o 11), .int (nI ee.1), .int (nI ev), .int (sd x)])) ((o 1), .inl (cF, n, .inr (.inr (.inl (va_cpy (M ((a + j) % 16)) (sc x) 0 0 n))))) wD wR w1).symm hP
  replace hD := lz_permD (sk_pS ((o 0), .inr (3, [.ref (o 1), .ref (o 2), .ref (o 6), .ref (o 11), .int (nI ee.1), .int (nI ev), .int (sd x)])) ((o 1), .inl (cF, n, .inr (.inr (.inl (va_cpy (M ((a + j) % 16)) (sc x) 0 0 n))))) wD wR w1).symm hD
  have hP : va_P D vwCl (((o 0), .inr (3, [.ref (o 1), .ref (o 2), .ref (o 6), .ref (o 11), .int (nI ee.1), .int (nI ev), .int (sd x)])) :: ((o 1), .inl (cF, n, .inr (.inr (.inl (va_cpy (M ((a + j) % 16)) (sc x) 0 0 n))))) :: (wD ++ (wR ++ w1))) H := hP
  have hD : va_D A (((o 0), .inr (3, [.ref (o 1), .ref (o 2), .ref (o 6), .ref (o 11), .int (nI ee.1), .int (nI ev), .int (sd x)])) :: ((o 1), .inl (cF, n, .inr (.inr (.inl (va_cpy (M ((a + j) % 16)) (sc x) 0 0 n))))) :: (wD ++ (wR ++ w1))) := hD
  exact W.iret hx hb hr (fun t9 ht9 _ => ⟨⟨_, (((o 0), .inr (3, [.ref (o 1), .ref (o 2), .ref (o 6), .ref (o 11), .int (nI ee.1), .int (nI ev), .int (sd x)])) :: ((o 1), .inl (cF, n, .inr (.inr (.inl (va_cpy (M ((a + j) % 16)) (sc x) 0 0 n))))) :: (wD ++ (wR ++ w1))), rfl, ⟨rfl, wD, wR, w1, hWD, hWR, hWS2, by rw [hcc]; rfl⟩, by show va_P D vwCl _ t9.heap; rw [ht9]; exact hP⟩, hS.F ht9⟩) hS.2.2 dX3_goBackTo_42

set_option maxRecDepth 100000 in
set_option maxHeartbeats 4000000 in
/-- stepAgainFrom(k) -/
theorem c_X3_stepAgainFrom {j : Nat} {ee : sE} (hj : (sS x)[j]? = some ee) (hw : WC cI cF cQ o n ev R x w) (hx0 : Ok n ev R x) (hs : srt (sL x)) : Met l yX3_stepAgainFrom wsX3_stepAgainFrom (rmk 8 0 0) (pcW l D cI cF cQ aT [.ref (o 0), .int (nI j)] w sz) (va_Qi (fun (r : Int32) (w1 : va_W) => r = nI (sT x - ee.1) ∧ WC cI cF cQ o n ev R (stps R ev (sT x - ee.1) (gb n x j ee)) w1) (fun w1 t => va_P D vwCl w1 t.heap) (va_A w sz)) 0 0 (va_A w sz) := by
  obtain ⟨wD, wR, wS, hWD, hWR, hWS, rfl⟩ := hw
  refine lz_ofM (Qf := fun A => va_Qi (fun (r : Int32) (w1 : va_W) => r = nI (sT x - ee.1) ∧ WC cI cF cQ o n ev R (stps R ev (sT x - ee.1) (gb n x j ee)) w1) (fun w1 t => va_P D vwCl w1 t.heap) A) (cc := cX3_stepAgainFrom) (maxL := 4) (ret := (some .int)) (by decide) rfl (Nat.le_of_ble_eq_true rfl) ?_
  intro p e s m below meth c A hAe hsz hx hb hr hlk hin hC hP hD hS ls hl
  clear hAe
  have hts := hC.1.2.2.2.2
  have hown : s.vm.findClass RX3 = some m.cls := hC.1.2.2.2.1
  have hml := hC.1.2.2.1
  have hA := hC.2.1
  have hK := hC.2.2.2.1
  have hnm := hC.2.2.2.2.1
  have hnf := hC.2.2.2.2.2.1
  have hiX3 : ∀ w ∈ u_ws RX3 TX3 7, w ∈ wsX3_stepAgainFrom := fun _ h => List.mem_cons_of_mem _ (List.mem_append_left _ (List.mem_append_left _ (List.mem_append_left _ (List.mem_append_right _ h))))
  have hl : lv_has ls 4 [(0, .ref (o 0)), (1, .int (nI j))] := hl
  have hw : WC cI cF cQ o n ev R x (skW cF o n ev x wD wR wS) := ⟨wD, wR, wS, hWD, hWR, hWS, rfl⟩
  have hT9 : sT x < 2 ^ 29 := hx0.2.2.2.2.1
  have he9 := hx0.2.2.2.2.2.2.2.1 ee (List.mem_of_getElem? hj)
  have hle : ee.1 ≤ sT x := he9.2
  refine lv_aload_n hx hb dX3_stepAgainFrom_0 rfl (lv_at hl 0 rfl) ?_
  refine va_get (D := D) (ci := 3) (v := .int (nI (sT x))) (C := RX3) (T := TX3) (N := 7) hx hb hts hiX3 hown hK hP 0 rfl rfl 4 (by decide) (hts (.fieldLink RX3 57 "StateKeeper" "present" "I") (List.mem_of_getElem? (i := 1) rfl)) (fun _ h9 => h9) rfl dX3_stepAgainFrom_1 ?_
  refine lv_istore_n (lv' := [(2, .int (nI (sT x))), (0, .ref (o 0)), (1, .int (nI j))]) hx hb dX3_stepAgainFrom_4 rfl hl (by decide) rfl (fun ls hl => ?_)
  refine lv_aload_n hx hb dX3_stepAgainFrom_5 rfl (lv_at hl 1 rfl) ?_
  refine lv_iload_n hx hb dX3_stepAgainFrom_6 rfl (lv_at hl 2 rfl) ?_
  refine lz_cMi0 (lz_runV (C := RX3) (As := [.int (nI j)]) (rest := []) hC hS hl (c_X3_goBackTo hj hw hx0 hs) (cwV 1 hts gX3_stepAgainFrom_X3_goBackTo rfl rfl rfl (by decide +kernel) ⟨Nat.le_of_ble_eq_true rfl, Nat.le_of_ble_eq_true rfl⟩) hP hD (va_recv hK hP (ci := 3) (q0 := 0) rfl rfl) rfl rfl (Nat.le_of_ble_eq_true rfl) dX3_stepAgainFrom_7 ⟨Nat.le_of_ble_eq_true rfl, Nat.le_of_ble_eq_true rfl⟩) hD hS hA (fun r w1 h => h.2.ad2 hw) (fun r_1 w1 H locs hpo hP hD hS => ?_)
  obtain ⟨hr1, wD2, wR2, wS2, hWD2, hWR2, hWS2, rfl⟩ := hpo
  have hP : va_P D vwCl (((o 0), .inr (3, [.ref (o 1), .ref (o 2), .ref (o 6), .ref (o 11), .int (nI (ee.1)), .int (nI ev), .int (sd x)])) :: ((o 1), .inl (cF, n, .inr (.inr (.inl (va_cpy ee.2 (sc x) 0 0 n))))) :: (wD2 ++ (wR2 ++ wS2))) H := hP
  have hD : va_D A (((o 0), .inr (3, [.ref (o 1), .ref (o 2), .ref (o 6), .ref (o 11), .int (nI (ee.1)), .int (nI ev), .int (sd x)])) :: ((o 1), .inl (cF, n, .inr (.inr (.inl (va_cpy ee.2 (sc x) 0 0 n))))) :: (wD2 ++ (wR2 ++ wS2))) := hD
  refine lv_pop hx hb dX3_stepAgainFrom_10 rfl ?_
  refine lv_iload_n hx hb dX3_stepAgainFrom_11 rfl (lv_at hl 0 rfl) ?_
  refine lv_aload_n hx hb dX3_stepAgainFrom_12 rfl (lv_at hl 1 rfl) ?_
  refine va_get (D := D) (ci := 3) (v := .int (nI (ee.1))) (C := RX3) (T := TX3) (N := 7) hx hb hts hiX3 hown hK hP 0 rfl rfl 4 (by decide) (hts (.fieldLink RX3 57 "StateKeeper" "present" "I") (List.mem_of_getElem? (i := 1) rfl)) (fun _ h9 => h9) rfl dX3_stepAgainFrom_13 ?_
  refine lv_isub hx hb dX3_stepAgainFrom_16 ?_
  refine lz_i (pk_sub hle) ?_
  refine lv_istore_n (lv' := [(3, .int (nI ((sT x) - (ee.1)))), (2, .int (nI (sT x))), (0, .ref (o 0)), (1, .int (nI j))]) hx hb dX3_stepAgainFrom_17 rfl hl (by decide) rfl (fun ls hl => ?_)
  refine lv_aload_n hx hb dX3_stepAgainFrom_18 rfl (lv_at hl 2 rfl) ?_
  refine lv_iload_n hx hb dX3_stepAgainFrom_19 rfl (lv_at hl 0 rfl) ?_
  have hw2 : WC cI cF cQ o n ev R (gb n x j ee) (((o 0), .inr (3, [.ref (o 1), .ref (o 2), .ref (o 6), .ref (o 11), .int (nI (ee.1)), .int (nI ev), .int (sd x)])) :: ((o 1), .inl (cF, n, .inr (.inr (.inl (va_cpy ee.2 (sc x) 0 0 n))))) :: (wD2 ++ (wR2 ++ wS2))) := ⟨wD2, wR2, wS2, hWD2, hWR2, hWS2, rfl⟩
  refine lz_cMv0 (lz_runV (C := RX3) (As := [.int (nI ((sT x) - (ee.1)))]) (rest := []) hC hS hl (c_X3_doSteps (k := sT x - ee.1) (by omega) hw2 (gb_ok hx0 hj) hs (by show ee.1 + (sT x - ee.1) < 2 ^ 29; omega)) (cwV 1 hts gX3_stepAgainFrom_X3_doSteps rfl rfl rfl (by decide +kernel) ⟨Nat.le_of_ble_eq_true rfl, Nat.le_of_ble_eq_true rfl⟩) hP hD (va_recv hK hP (ci := 3) (q0 := 0) rfl rfl) rfl rfl (Nat.le_of_ble_eq_true rfl) dX3_stepAgainFrom_20 ⟨Nat.le_of_ble_eq_true rfl, Nat.le_of_ble_eq_true rfl⟩) hD hS hA (fun w1 h => h.ad2 hw2) (fun w1 H locs hpo hP hD hS => ?_)
  have hw8 := hpo
  refine lv_iload_n hx hb dX3_stepAgainFrom_23 rfl (lv_at hl 0 rfl) ?_
  exact W.iret hx hb hr (fun t9 ht9 _ => ⟨⟨_, w1, rfl, ⟨rfl, hw8⟩, by show va_P D vwCl _ t9.heap; rw [ht9]; exact hP⟩, hS.F ht9⟩) hS.2.2 dX3_stepAgainFrom_24

end X3b
