/-! StateKeeper$Snapshots -/
def rowsL (cF : ClassId) (o : Nat → Nat) (n : Nat) (M : Nat → Nat → UInt32) : va_W := (List.range 16).map (fun i => (o (14 + i), .inl (cF, n, .inr (.inr (.inl (M i))))))
abbrev snapW (cI cF cQ : ClassId) (o : Nat → Nat) (n a k : Nat) (f1 : Nat → Int32) (M : Nat → Nat → UInt32) : va_W := ((o 11), .inr (2, [.ref (o 12), .ref (o 13), .int (nI a), .int (nI k)])) :: ((o 12), .inl (cI, 16, .inl f1)) :: ((o 13), .inl (cQ, 16, .inr (.inr (.inr (.inr (fun i => if i < 16 then some (o (14 + i)) else none)))))) :: (rowsL cF o n M)
def snapOk (n : Nat) (S : List sE) (a : Nat) (f1 : Nat → Int32) (M : Nat → Nat → UInt32) : Prop := ∀ (j : Nat) (e : sE), S[j]? = some e → f1 ((a + j) % 16) = nI e.1 ∧ ∀ i, i < n → M ((a + j) % 16) i = e.2 i
/-- the steps of the snapshots: rising, and no great numbers -/
def sGood (S : List sE) : Prop := ssrt S ∧ S.length ≤ 16 ∧ ∀ e ∈ S, e.1 < 2 ^ 30
theorem sGood_lt {S : List sE} (h : sGood S) {j : Nat} {e : sE} (hj : S[j]? = some e) : e.1 < 2 ^ 30 := h.2.2 e (List.mem_of_getElem? hj)
theorem rows_get {cF : ClassId} {o : Nat → Nat} {n : Nat} {M : Nat → Nat → UInt32} {i : Nat} (hi : i < 16) : (rowsL cF o n M)[i]? = some (o (14 + i), .inl (cF, n, .inr (.inr (.inl (M i))))) := by
  unfold rowsL
  rw [List.getElem?_map, List.getElem?_range hi]
  rfl
theorem rows_set {cF : ClassId} {o : Nat → Nat} {n : Nat} {M : Nat → Nat → UInt32} {i : Nat} {x : Nat → UInt32} : (rowsL cF o n M).set i (o (14 + i), .inl (cF, n, .inr (.inr (.inl x)))) = rowsL cF o n (va_up M i x) := by
  unfold rowsL
  apply List.ext_getElem?
  intro j
  rw [List.getElem?_set, List.length_map, List.length_range, List.getElem?_map, List.getElem?_map]
  by_cases hj : j < 16
  · rw [List.getElem?_range hj]
    by_cases e : i = j
    · subst e
      simp [hj, va_up]
    · simp [e, va_up, Ne.symm e]
  · have hn : (List.range 16)[j]? = none := List.getElem?_eq_none (by rw [List.length_range]; omega)
    rw [hn]
    by_cases e : i = j
    · subst e
      simp [hj]
    · simp [e]
section X2
variable {l : Launch} {D : va_G} {cI cF cQ : ClassId} {aT sz : Nat} {o : Nat → Nat} {n a k : Nat} {f1 : Nat → Int32} {M : Nat → Nat → UInt32}

set_option maxRecDepth 100000 in
set_option maxHeartbeats 4000000 in
/-- slot(k) -/
theorem c_X2_slot {j : Nat} (ha : a < 16) (hj : j < 2 ^ 20) : Met l yX2_slot wsX2_slot (rmk 0 0 0) (pcW l D cI cF cQ aT [.ref (o 11), .int (nI j)] (snapW cI cF cQ o n a k f1 M) sz) (vp_Si (fun r => r = nI ((a + j) % 16))) 0 0 (fun _ => False) := by
  refine lz_ofR (cc := cX2_slot) (maxL := 2) (ret := (some .int)) (by decide) rfl (Nat.le_of_ble_eq_true rfl) ?_
  intro p e s m below meth c A hx hb hr hlk hC hP hD hS ls hl
  have hts := hC.1.2.2.2.2
  have hown : s.vm.findClass RX2 = some m.cls := hC.1.2.2.2.1
  have hml := hC.1.2.2.1
  have hA := hC.2.1
  have hK := hC.2.2.2.1
  have hnm := hC.2.2.2.2.1
  have hnf := hC.2.2.2.2.2.1
  have hiX2 : ∀ w ∈ u_ws RX2 TX2 4, w ∈ wsX2_slot := fun _ h => List.mem_cons_of_mem _ (List.mem_append_right _ h)
  have hl : lv_has ls 2 [(0, .ref (o 11)), (1, .int (nI j))] := hl
  refine lv_aload_n hx hb dX2_slot_0 rfl (lv_at hl 0 rfl) ?_
  refine va_get (D := D) (ci := 2) (v := .int (nI a)) (C := RX2) (T := TX2) (N := 4) hx hb hts hiX2 hown hK hP 0 rfl rfl 2 (by decide) (hts (.fieldLink RX2 24 "StateKeeper$Snapshots" "first" "I") (List.mem_of_getElem? (i := 1) rfl)) (fun _ h9 => h9) rfl dX2_slot_1 ?_
  refine lv_iload_n hx hb dX2_slot_4 rfl (lv_at hl 1 rfl) ?_
  refine lv_iadd hx hb dX2_slot_5 ?_
  refine lz_i (nI_add _ _) ?_
  refine lv_bipush (v := nI 16) hx hb dX2_slot_6 (by decide) ?_
  refine lv_irem hx hb dX2_slot_8 (by decide) ?_
  refine lz_i (pk_rem (by omega) (by omega) (by omega)) ?_
  exact W.iret hx hb hr (fun t9 ht9 _ => ⟨_, rfl, rfl, ht9⟩) (fun _ h => nomatch h) dX2_slot_9

set_option maxRecDepth 100000 in
set_option maxHeartbeats 4000000 in
/-- stepOf(k) -/
theorem c_X2_stepOf {j : Nat} (ha : a < 16) (hj : j < 2 ^ 20) : Met l yX2_stepOf wsX2_stepOf (rmk 1 0 0) (pcW l D cI cF cQ aT [.ref (o 11), .int (nI j)] (snapW cI cF cQ o n a k f1 M) sz) (vp_Si (fun r => r = f1 ((a + j) % 16))) 0 0 (fun _ => False) := by
  refine lz_ofR (cc := cX2_stepOf) (maxL := 2) (ret := (some .int)) (by decide) rfl (Nat.le_of_ble_eq_true rfl) ?_
  intro p e s m below meth c A hx hb hr hlk hC hP hD hS ls hl
  have hts := hC.1.2.2.2.2
  have hown : s.vm.findClass RX2 = some m.cls := hC.1.2.2.2.1
  have hml := hC.1.2.2.1
  have hA := hC.2.1
  have hK := hC.2.2.2.1
  have hnm := hC.2.2.2.2.1
  have hnf := hC.2.2.2.2.2.1
  have hiX2 : ∀ w ∈ u_ws RX2 TX2 4, w ∈ wsX2_stepOf := fun _ h => List.mem_cons_of_mem _ (List.mem_append_right _ h)
  have hl : lv_has ls 2 [(0, .ref (o 11)), (1, .int (nI j))] := hl
  refine lv_aload_n hx hb dX2_stepOf_0 rfl (lv_at hl 0 rfl) ?_
  refine va_get (D := D) (ci := 2) (v := .ref (o 12)) (C := RX2) (T := TX2) (N := 4) hx hb hts hiX2 hown hK hP 0 rfl rfl 0 (by decide) (hts (.fieldLink RX2 9 "StateKeeper$Snapshots" "steps" "[I") (List.mem_of_getElem? (i := 1) rfl)) (fun _ h9 => h9) rfl dX2_stepOf_1 ?_
  refine lv_aload_n hx hb dX2_stepOf_4 rfl (lv_at hl 0 rfl) ?_
  refine lv_iload_n hx hb dX2_stepOf_5 rfl (lv_at hl 1 rfl) ?_
  refine vp_callSi (lz_runV (C := RX2) (As := [.int (nI j)]) (rest := [.ref (o 12)]) hC hS hl (c_X2_slot ha hj) (cwV 1 hts gX2_stepOf_X2_slot rfl rfl rfl (by decide +kernel) ⟨Nat.le_of_ble_eq_true rfl, Nat.le_of_ble_eq_true rfl⟩) hP hD (va_recv hK hP (ci := 2) (q0 := 0) rfl rfl) rfl rfl (Nat.le_of_ble_eq_true rfl) dX2_stepOf_6 ⟨Nat.le_of_ble_eq_true rfl, Nat.le_of_ble_eq_true rfl⟩).run (fun r_1 er_1 => ?_)
  subst er_1
  have hlt : (a + j) % 16 < 16 := Nat.mod_lt _ (by decide)
  refine lz_iald hx hb hK hP 1 1 rfl rfl (by omega) (by omega) dX2_stepOf_9 ?_
  exact W.iret hx hb hr (fun t9 ht9 _ => ⟨_, rfl, rfl, ht9⟩) (fun _ h => nomatch h) dX2_stepOf_10

set_option maxRecDepth 100000 in
set_option maxHeartbeats 4000000 in
/-- row(k) -/
theorem c_X2_row {j : Nat} (ha : a < 16) (hj : j < 2 ^ 20) : Met l yX2_row wsX2_row (rmk 1 0 0) (pcW l D cI cF cQ aT [.ref (o 11), .int (nI j)] (snapW cI cF cQ o n a k f1 M) sz) (va_Sr (fun q => q = o (14 + (a + j) % 16)) Value.ref) 0 0 (fun _ => False) := by
  refine lz_ofR (cc := cX2_row) (maxL := 2) (ret := (some (.array .float))) (by decide) rfl (Nat.le_of_ble_eq_true rfl) ?_
  intro p e s m below meth c A hx hb hr hlk hC hP hD hS ls hl
  have hts := hC.1.2.2.2.2
  have hown : s.vm.findClass RX2 = some m.cls := hC.1.2.2.2.1
  have hml := hC.1.2.2.1
  have hA := hC.2.1
  have hK := hC.2.2.2.1
  have hnm := hC.2.2.2.2.1
  have hnf := hC.2.2.2.2.2.1
  have hiX2 : ∀ w ∈ u_ws RX2 TX2 4, w ∈ wsX2_row := fun _ h => List.mem_cons_of_mem _ (List.mem_append_right _ h)
  have hl : lv_has ls 2 [(0, .ref (o 11)), (1, .int (nI j))] := hl
  refine lv_aload_n hx hb dX2_row_0 rfl (lv_at hl 0 rfl) ?_
  refine va_get (D := D) (ci := 2) (v := .ref (o 13)) (C := RX2) (T := TX2) (N := 4) hx hb hts hiX2 hown hK hP 0 rfl rfl 1 (by decide) (hts (.fieldLink RX2 17 "StateKeeper$Snapshots" "rows" "[[F") (List.mem_of_getElem? (i := 1) rfl)) (fun _ h9 => h9) rfl dX2_row_1 ?_
  refine lv_aload_n hx hb dX2_row_4 rfl (lv_at hl 0 rfl) ?_
  refine lv_iload_n hx hb dX2_row_5 rfl (lv_at hl 1 rfl) ?_
  refine vp_callSi (lz_runV (C := RX2) (As := [.int (nI j)]) (rest := [.ref (o 13)]) hC hS hl (c_X2_slot ha hj) (cwV 1 hts gX2_row_X2_slot rfl rfl rfl (by decide +kernel) ⟨Nat.le_of_ble_eq_true rfl, Nat.le_of_ble_eq_true rfl⟩) hP hD (va_recv hK hP (ci := 2) (q0 := 0) rfl rfl) rfl rfl (Nat.le_of_ble_eq_true rfl) dX2_row_6 ⟨Nat.le_of_ble_eq_true rfl, Nat.le_of_ble_eq_true rfl⟩).run (fun r_1 er_1 => ?_)
  subst er_1
  have hlt : (a + j) % 16 < 16 := Nat.mod_lt _ (by decide)
  refine lz_aald (r := o (14 + (a + j) % 16)) (t := .float) hx hb hK hP 2 2 rfl rfl hlt (by decide) (if_pos hlt) dX2_row_9 ?_
  exact W.aret hx hb hr (Or.inr ⟨_, rfl⟩) (Or.inr ⟨_, rfl⟩) (fun t ht _ => ⟨_, rfl, rfl, ht⟩) (fun _ h => nomatch h) dX2_row_10

set_option maxRecDepth 100000 in
set_option maxHeartbeats 4000000 in
/-- highestNotAbove(step) -/
theorem c_X2_highestNotAbove {S : List sE} {z : Int32} (ha : a < 16) (hok : snapOk n S a f1 M) (hS2 : sGood S) : Met l yX2_highestNotAbove wsX2_highestNotAbove (rmk 2 0 0) (pcW l D cI cF cQ aT [.ref (o 11), .int z] (snapW cI cF cQ o n a S.length f1 M) sz) (vp_Si (fun r => r = nI (hsn S z.toInt) - 1)) 0 0 (fun _ => False) := by
  refine lz_ofR (cc := cX2_highestNotAbove) (maxL := 3) (ret := (some .int)) (by decide) rfl (Nat.le_of_ble_eq_true rfl) ?_
  intro p e s m below meth c A hx hb hr hlk hC hP hD hS ls hl
  have hts := hC.1.2.2.2.2
  have hown : s.vm.findClass RX2 = some m.cls := hC.1.2.2.2.1
  have hml := hC.1.2.2.1
  have hA := hC.2.1
  have hK := hC.2.2.2.1
  have hnm := hC.2.2.2.2.1
  have hnf := hC.2.2.2.2.2.1
  have hiX2 : ∀ w ∈ u_ws RX2 TX2 4, w ∈ wsX2_highestNotAbove := fun _ h => List.mem_cons_of_mem _ (List.mem_append_right _ h)
  have hl : lv_has ls 3 [(0, .ref (o 11)), (1, .int z)] := hl
  have loop : ∀ (i : Nat), i ≤ S.length → hsn S z.toInt ≤ i → ∀ ls : Array Slot, lv_has ls 3 [(2, .int (nI i - 1)), (0, .ref (o 11)), (1, .int z)] → W p l e (rmk 2 0 0) s m [.ref (o 11), .int z].toArray below meth c s.heap [] 0 0 (MQ below (vp_Si (fun r => r = nI (hsn S z.toInt) - 1)) [.ref (o 11), .int z].toArray s 0 0 (fun _ => False)) (F0 m 7 ls []) := by
    intro i
    induction i with
    | zero =>
      intro h1 h2 ls hl
      refine lv_iload_n hx hb dX2_highestNotAbove_7 rfl (lv_at hl 0 rfl) ?_
      refine lv_if_lt (tgt := 28) hx hb dX2_highestNotAbove_8 (by decide) (fun c_1 => ?_) (fun c_1 => absurd (by decide) c_1)
      refine lv_iconst (v := -1) hx hb dX2_highestNotAbove_28 (by decide) ?_
      have hz : hsn S z.toInt = 0 := by omega
      exact W.iret hx hb hr (fun t9 ht9 _ => ⟨_, rfl, (by rw [hz]; decide), ht9⟩) (fun _ h => nomatch h) dX2_highestNotAbove_29
    | succ i ih =>
      intro h1 h2 ls hl
      have hlen := hS2.2.1
      refine lv_iload_n hx hb dX2_highestNotAbove_7 rfl (lv_at hl 0 rfl) ?_
      refine lz_i (y := nI i) (nI_pred i) ?_
      refine lv_if_lt (tgt := 28) hx hb dX2_highestNotAbove_8 (by decide) (fun c1 => absurd c1 (nI_pos (by omega))) (fun c1 => ?_)
      refine lv_aload_n hx hb dX2_highestNotAbove_11 rfl (lv_at hl 1 rfl) ?_
      refine lv_iload_n hx hb dX2_highestNotAbove_12 rfl (lv_at hl 0 rfl) ?_
      refine lz_i (y := nI i) (nI_pred i) ?_
      obtain ⟨e9, he⟩ : ∃ e9, S[i]? = some e9 := ⟨S[i], List.getElem?_eq_getElem (by omega)⟩
      have he1 := (hok i e9 he).1
      have heb := sGood_lt hS2 he
      have hih := hsn_iff hS2.1 (b := z.toInt) he
      refine vp_callSi (lz_runV (C := RX2) (As := [.int (nI i)]) (rest := []) hC hS hl (c_X2_stepOf (k := S.length) ha (by omega)) (cwV 1 hts gX2_highestNotAbove_X2_stepOf rfl rfl rfl (by decide +kernel) ⟨Nat.le_of_ble_eq_true rfl, Nat.le_of_ble_eq_true rfl⟩) hP hD (va_recv hK hP (ci := 2) (q0 := 0) rfl rfl) rfl rfl (Nat.le_of_ble_eq_true rfl) dX2_highestNotAbove_13 ⟨Nat.le_of_ble_eq_true rfl, Nat.le_of_ble_eq_true rfl⟩).run (fun r_2 er_2 => ?_)
      subst er_2
      refine lz_i (y := nI e9.1) he1 ?_
      refine lv_iload_n hx hb dX2_highestNotAbove_16 rfl (lv_at hl 2 rfl) ?_
      refine lv_icmp_gt (tgt := 22) hx hb dX2_highestNotAbove_17 (by decide) (fun c_3 => ?_) (fun c_3 => ?_)
      · have h3 := (iz_lt_r (by omega)).mp c_3
        refine lv_iinc (v := nI i - 1) (lv' := [(2, .int (nI i - 1)), (0, .ref (o 11)), (1, .int z)]) hx hb dX2_highestNotAbove_22 hl (k := 0) rfl (by rw [nI_pred]; exact lz_dec i) (by decide) rfl (fun ls hl => ?_)
        refine lv_goto (tgt := 7) hx hb dX2_highestNotAbove_25 (by decide) ?_
        exact ih (by omega) (by omega) ls hl
      · have h3 : ¬ z.toInt < (e9.1 : Int) := fun q => c_3 ((iz_lt_r (by omega)).mpr q)
        refine lv_iload_n hx hb dX2_highestNotAbove_20 rfl (lv_at hl 0 rfl) ?_
        have hz : hsn S z.toInt = i + 1 := by omega
        exact W.iret hx hb hr (fun t9 ht9 _ => ⟨_, rfl, (by rw [hz]), ht9⟩) (fun _ h => nomatch h) dX2_highestNotAbove_21
  refine lv_aload_n hx hb dX2_highestNotAbove_0 rfl (lv_at hl 0 rfl) ?_
  refine va_get (D := D) (ci := 2) (v := .int (nI S.length)) (C := RX2) (T := TX2) (N := 4) hx hb hts hiX2 hown hK hP 0 rfl rfl 3 (by decide) (hts (.fieldLink RX2 20 "StateKeeper$Snapshots" "size" "I") (List.mem_of_getElem? (i := 1) rfl)) (fun _ h9 => h9) rfl dX2_highestNotAbove_1 ?_
  refine lv_iconst (v := nI 1) hx hb dX2_highestNotAbove_4 (by decide) ?_
  refine lv_isub hx hb dX2_highestNotAbove_5 ?_
  refine lv_istore_n (lv' := [(2, .int ((nI S.length) - (nI 1))), (0, .ref (o 11)), (1, .int z)]) hx hb dX2_highestNotAbove_6 rfl hl (by decide) rfl (fun ls hl => ?_)
  exact loop S.length (Nat.le_refl _) (hsn_le S _) ls hl

set_option maxRecDepth 100000 in
set_option maxHeartbeats 4000000 in
/-- find(step) -/
theorem c_X2_find {S : List sE} {z : Int32} (ha : a < 16) (hok : snapOk n S a f1 M) (hS2 : sGood S) : Met l yX2_find wsX2_find (rmk 3 0 0) (pcW l D cI cF cQ aT [.ref (o 11), .int z] (snapW cI cF cQ o n a S.length f1 M) sz) (vp_Si (fun r => r = opI (plc S z.toInt))) 0 0 (fun _ => False) := by
  refine lz_ofR (cc := cX2_find) (maxL := 3) (ret := (some .int)) (by decide) rfl (Nat.le_of_ble_eq_true rfl) ?_
  intro p e s m below meth c A hx hb hr hlk hC hP hD hS ls hl
  have hts := hC.1.2.2.2.2
  have hown : s.vm.findClass RX2 = some m.cls := hC.1.2.2.2.1
  have hml := hC.1.2.2.1
  have hA := hC.2.1
  have hK := hC.2.2.2.1
  have hnm := hC.2.2.2.2.1
  have hnf := hC.2.2.2.2.2.1
  have hiX2 : ∀ w ∈ u_ws RX2 TX2 4, w ∈ wsX2_find := fun _ h => List.mem_cons_of_mem _ (List.mem_append_right _ h)
  have hl : lv_has ls 3 [(0, .ref (o 11)), (1, .int z)] := hl
  have hlen := hS2.2.1
  refine lv_aload_n hx hb dX2_find_0 rfl (lv_at hl 0 rfl) ?_
  refine lv_iload_n hx hb dX2_find_1 rfl (lv_at hl 1 rfl) ?_
  refine vp_callSi (lz_runV (C := RX2) (As := [.int z]) (rest := []) hC hS hl (c_X2_highestNotAbove ha hok hS2) (cwV 1 hts gX2_find_X2_highestNotAbove rfl rfl rfl (by decide +kernel) ⟨Nat.le_of_ble_eq_true rfl, Nat.le_of_ble_eq_true rfl⟩) hP hD (va_recv hK hP (ci := 2) (q0 := 0) rfl rfl) rfl rfl (Nat.le_of_ble_eq_true rfl) dX2_find_2 ⟨Nat.le_of_ble_eq_true rfl, Nat.le_of_ble_eq_true rfl⟩).run (fun r_1 er_1 => ?_)
  subst er_1
  have hle := hsn_le S z.toInt
  cases hh : hsn S z.toInt with
  | zero =>
    refine lz_i (y := -1) (by decide) ?_
    refine lv_istore_n (lv' := [(2, .int (-1)), (0, .ref (o 11)), (1, .int z)]) hx hb dX2_find_5 rfl hl (by decide) rfl (fun ls hl => ?_)
    refine lv_iload_n hx hb dX2_find_6 rfl (lv_at hl 0 rfl) ?_
    refine lv_iconst (v := -1) hx hb dX2_find_7 (by decide) ?_
    refine lv_icmp_eq (tgt := 24) hx hb dX2_find_8 (by decide) (fun c_2 => ?_) (fun c_2 => absurd rfl c_2)
    refine lv_iconst (v := -1) hx hb dX2_find_24 (by decide) ?_
    have hp : plc S z.toInt = none := plc_none fun e9 he9 hz => by
      obtain ⟨i, hi⟩ := List.getElem?_of_mem he9
      have := (hsn_iff hS2.1 (b := z.toInt) hi)
      omega
    exact W.iret hx hb hr (fun t9 ht9 _ => ⟨_, rfl, (by rw [hp]; rfl), ht9⟩) (fun _ h => nomatch h) dX2_find_25
  | succ h =>
    refine lz_i (y := nI h) (nI_pred h) ?_
    refine lv_istore_n (lv' := [(2, .int (nI h)), (0, .ref (o 11)), (1, .int z)]) hx hb dX2_find_5 rfl hl (by decide) rfl (fun ls hl => ?_)
    refine lv_iload_n hx hb dX2_find_6 rfl (lv_at hl 0 rfl) ?_
    refine lv_iconst (v := -1) hx hb dX2_find_7 (by decide) ?_
    obtain ⟨e9, he⟩ : ∃ e9, S[h]? = some e9 := ⟨S[h], List.getElem?_eq_getElem (by omega)⟩
    have he1 := (hok h e9 he).1
    have heb := sGood_lt hS2 he
    have hih := hsn_iff hS2.1 (b := z.toInt) he
    refine lv_icmp_eq (tgt := 24) hx hb dX2_find_8 (by decide) (fun c1 => absurd c1 (iz_m1 (by omega))) (fun c1 => ?_)
    refine lv_aload_n hx hb dX2_find_11 rfl (lv_at hl 1 rfl) ?_
    refine lv_iload_n hx hb dX2_find_12 rfl (lv_at hl 0 rfl) ?_
    refine vp_callSi (lz_runV (C := RX2) (As := [.int (nI h)]) (rest := []) hC hS hl (c_X2_stepOf (k := S.length) ha (by omega)) (cwV 1 hts gX2_find_X2_stepOf rfl rfl rfl (by decide +kernel) ⟨Nat.le_of_ble_eq_true rfl, Nat.le_of_ble_eq_true rfl⟩) hP hD (va_recv hK hP (ci := 2) (q0 := 0) rfl rfl) rfl rfl (Nat.le_of_ble_eq_true rfl) dX2_find_13 ⟨Nat.le_of_ble_eq_true rfl, Nat.le_of_ble_eq_true rfl⟩).run (fun r_3 er_3 => ?_)
    subst er_3
    refine lz_i (y := nI e9.1) he1 ?_
    refine lv_iload_n hx hb dX2_find_16 rfl (lv_at hl 2 rfl) ?_
    refine lv_icmp_ne (tgt := 24) hx hb dX2_find_17 (by decide) (fun c_4 => ?_) (fun c_4 => ?_)
    · have h3 : ¬ (e9.1 : Int) = z.toInt := fun q => c_4 ((iz_eq (by omega)).mpr q)
      refine lv_iconst (v := -1) hx hb dX2_find_24 (by decide) ?_
      have hp : plc S z.toInt = none := plc_none fun x9 hx9 hz => by
        obtain ⟨i, hi⟩ := List.getElem?_of_mem hx9
        have q1 := (hsn_iff hS2.1 (b := z.toInt) hi)
        have q2 := (hsn_iff hS2.1 (b := (e9.1 : Int)) hi)
        have q3 := (hsn_iff hS2.1 (b := (e9.1 : Int)) he)
        omega
      exact W.iret hx hb hr (fun t9 ht9 _ => ⟨_, rfl, (by rw [hp]; rfl), ht9⟩) (fun _ h => nomatch h) dX2_find_25
    · have h3 : (e9.1 : Int) = z.toInt := (iz_eq (by omega)).mp c_4
      refine lv_iload_n hx hb dX2_find_20 rfl (lv_at hl 0 rfl) ?_
      refine lv_goto (tgt := 25) hx hb dX2_find_21 (by decide) ?_
      have hp : plc S z.toInt = some h := plc_some hS2.1 he h3
      exact W.iret hx hb hr (fun t9 ht9 _ => ⟨_, rfl, (by rw [hp]; rfl), ht9⟩) (fun _ h => nomatch h) dX2_find_25

end X2
