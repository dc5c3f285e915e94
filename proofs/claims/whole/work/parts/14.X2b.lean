/-! StateKeeper$Snapshots: what writes -/
def WS (cI cF cQ : ClassId) (o : Nat → Nat) (n : Nat) (S : List sE) (w : va_W) : Prop := ∃ a f1 M, a < 16 ∧ snapOk n S a f1 M ∧ w = snapW cI cF cQ o n a S.length f1 M
theorem rowsL_ad (cF : ClassId) (o : Nat → Nat) (n : Nat) (M : Nat → Nat → UInt32) : (rowsL cF o n M).map Prod.fst = (List.range 16).map (fun i => o (14 + i)) := by
  unfold rowsL
  rw [List.map_map]
  rfl
theorem WS.ad {cI cF cQ : ClassId} {o : Nat → Nat} {n : Nat} {S : List sE} {w : va_W} (h : WS cI cF cQ o n S w) : w.map Prod.fst = o 11 :: o 12 :: o 13 :: (List.range 16).map (fun i => o (14 + i)) := by
  obtain ⟨a, f1, M, -, -, rfl⟩ := h
  rw [List.map_cons, List.map_cons, List.map_cons, rowsL_ad]
/-- the snapshots with one of step T more (or another at its place), the lowest dropped where there are 16 -/
def snapT (S : List sE) (T : Nat) (c : Nat → UInt32) : List sE := match plc S (T : Int) with
  | some j => S.set j (T, c)
  | none => (if S.length = 16 then S.tail else S) ++ [(T, c)]
theorem snap_upd {n : Nat} {S S' : List sE} {a : Nat} {f1 : Nat → Int32} {M : Nat → Nat → UInt32} {T j : Nat} {c : Nat → UInt32} (h : snapOk n S a f1 M) (hj : j < 16) (h16 : S'.length ≤ 16) (hs : ∀ (i : Nat) (e : sE), S'[i]? = some e → (i = j ∧ e = (T, c)) ∨ (i ≠ j ∧ S[i]? = some e)) : snapOk n S' a (upd f1 ((a + j) % 16) (nI T)) (va_up M ((a + j) % 16) (va_cpy c (M ((a + j) % 16)) 0 0 n)) := by
  intro i e hi
  have hl : i < S'.length := (List.getElem?_eq_some_iff.mp hi).1
  rcases hs i e hi with ⟨rfl, rfl⟩ | ⟨hne, he⟩
  · refine ⟨by simp [upd], fun q hq => ?_⟩
    rw [va_up_self]
    unfold va_cpy
    rw [if_pos (by omega)]
    show c (0 + (q - 0)) = c q
    congr 1
    omega
  · have hx : ¬ (a + i) % 16 = (a + j) % 16 := by omega
    have := h i e he
    refine ⟨?_, fun q hq => ?_⟩
    · simp only [upd, hx, if_false]
      exact this.1
    · rw [va_up_ne _ _ hx]
      exact this.2 q hq
theorem snap_tail {n : Nat} {S : List sE} {a : Nat} {f1 : Nat → Int32} {M : Nat → Nat → UInt32} (h : snapOk n S a f1 M) : snapOk n S.tail ((a + 1) % 16) f1 M := by
  intro j e hj
  rw [List.getElem?_tail] at hj
  have := h (j + 1) e hj
  rw [show ((a + 1) % 16 + j) % 16 = (a + (j + 1)) % 16 by omega]
  exact this
theorem snap_take {n : Nat} {S : List sE} {a : Nat} {f1 : Nat → Int32} {M : Nat → Nat → UInt32} (h : snapOk n S a f1 M) (k : Nat) : snapOk n (S.take k) a f1 M := by
  intro j e hj
  rw [List.getElem?_take] at hj
  split at hj
  · exact h j e hj
  · cases hj
section ROW
variable {p : Program} {l : Launch} {e : Env} {R : Room} {s : State} {m : MethodId} {args : Array Value} {below : List Frame} {meth : Method} {c : Code} {H : Heap} {locs : List Loc} {cells slots : Nat} {Q : State → Prop}
variable {cc : ByteArray} {pc : Nat} {ls : Array Slot} {rest : List Value} {D : va_G} {cl : List vw_C} {A : Nat → Prop} {tys : List (ClassId × FieldType)} {H0 : Heap}
/-- the cells are copied into row i -/
theorem lz_toRow (hexec : p.tables.exec = Jvm.exec) (hb : c.code = cc) (hml : c.maxLocals = ls.size) {own : String} {index : Nat} (hown : s.vm.findClass own = some m.cls) (hlink : (Cond.methodLink own index arraycopyName).before args s = true) (hnat : (Cond.native arraycopyName).before args s = true) (hstat : (Cond.static arraycopyName).before args s = true) (hini : (Cond.initialized "java/lang/System").before args s = true)
    {a0 n i : Nat} {cF : ClassId} {o : Nat → Nat} {x2 x3 x4 : Nat × va_E} {f : Nat → UInt32} {M : Nat → Nat → UInt32} (hK : va_K D cl tys s) (hP : va_P D cl ((a0, .inl (cF, n, .inr (.inr (.inl f)))) :: x2 :: x3 :: x4 :: rowsL cF o n M) H) (hD : va_D A ((a0, .inl (cF, n, .inr (.inr (.inl f)))) :: x2 :: x3 :: x4 :: rowsL cF o n M)) (hS : va_S A H0 H locs) (t0 : Nat) (ht : tys[t0]? = some (cF, .float))
    (hi : i < 16) (h6 : n < 2 ^ 31) (hframes : 1 ≤ R.frames) (hlocals : (rest.map fun v => v.category).sum + (nativeFrameWords "java/lang/System" "arraycopy" 5 + 11) ≤ R.locals) (hdg : decode cc pc = .ok (.invokestatic index, 3))
    (kk : ∀ (H1 : Heap) (locs1 : List Loc), va_P D cl ((a0, .inl (cF, n, .inr (.inr (.inl f)))) :: x2 :: x3 :: x4 :: rowsL cF o n (va_up M i (va_cpy f (M i) 0 0 n))) H1 → va_D A ((a0, .inl (cF, n, .inr (.inr (.inl f)))) :: x2 :: x3 :: x4 :: rowsL cF o n (va_up M i (va_cpy f (M i) 0 0 n))) → va_S A H0 H1 locs1 → W p l e R s m args below meth c H1 locs1 cells slots Q (F0 m (pc + 3) ls rest)) : W p l e R s m args below meth c H locs cells slots Q (F0 m pc ls (.int (nI n) :: .int (nI 0) :: .ref (o (14 + i)) :: .int (nI 0) :: .ref a0 :: rest)) := by
  refine lz_copyf hexec hb hml hown hlink hnat hstat hini hK hP hD hS 0 (i + 4) t0 rfl (f := f) (g := M i) (n1 := n) ?_ ht (by omega) (by omega) h6 h6 hframes hlocals hdg (fun H1 locs1 g1 g2 g3 => ?_)
  · show (rowsL cF o n M)[i]? = _
    exact rows_get hi
  · have e1 : ((a0, .inl (cF, n, .inr (.inr (.inl f)))) :: x2 :: x3 :: x4 :: rowsL cF o n M).set (i + 4) (o (14 + i), .inl (cF, n, .inr (.inr (.inl (va_cpy f (M i) 0 0 n))))) = (a0, .inl (cF, n, .inr (.inr (.inl f)))) :: x2 :: x3 :: x4 :: rowsL cF o n (va_up M i (va_cpy f (M i) 0 0 n)) := by
      rw [← rows_set]
      rfl
    rw [e1] at g1 g2
    exact kk H1 locs1 g1 g2 g3
end ROW
section X2b
variable {l : Launch} {D : va_G} {cI cF cQ : ClassId} {aT sz : Nat} {o : Nat → Nat} {n a k : Nat} {f1 : Nat → Int32} {M : Nat → Nat → UInt32}

set_option maxRecDepth 100000 in
set_option maxHeartbeats 4000000 in
/-- dropBehind(k) -/
theorem c_X2_dropBehind {S : List sE} (ha : a < 16) (hok : snapOk n S a f1 M) (hS2 : sGood S) {j : Nat} (hj : j < S.length) : Met l yX2_dropBehind wsX2_dropBehind (rmk 0 0 0) (pcW l D cI cF cQ aT [.ref (o 11), .int (nI j)] (snapW cI cF cQ o n a S.length f1 M) sz) (va_Qi (fun (r : Int32) (w1 : va_W) => r = nI (S.length - 1 - j) ∧ WS cI cF cQ o n (S.take (j + 1)) w1) (fun w1 t => va_P D vwCl w1 t.heap) (va_A (snapW cI cF cQ o n a S.length f1 M) sz)) 0 0 (va_A (snapW cI cF cQ o n a S.length f1 M) sz) := by
  refine lz_ofM (Qf := fun A => va_Qi (fun (r : Int32) (w1 : va_W) => r = nI (S.length - 1 - j) ∧ WS cI cF cQ o n (S.take (j + 1)) w1) (fun w1 t => va_P D vwCl w1 t.heap) A) (cc := cX2_dropBehind) (maxL := 3) (ret := (some .int)) (by decide) rfl (Nat.le_of_ble_eq_true rfl) ?_
  intro p e s m below meth c A hAe hsz hx hb hr hlk hin hC hP hD hS ls hl
  clear hAe
  have hts := hC.1.2.2.2.2
  have hown : s.vm.findClass RX2 = some m.cls := hC.1.2.2.2.1
  have hml := hC.1.2.2.1
  have hA := hC.2.1
  have hK := hC.2.2.2.1
  have hnm := hC.2.2.2.2.1
  have hnf := hC.2.2.2.2.2.1
  have hiX2 : ∀ w ∈ u_ws RX2 TX2 4, w ∈ wsX2_dropBehind := fun _ h => List.mem_cons_of_mem _ (List.mem_append_right _ h)
  have hl : lv_has ls 3 [(0, .ref (o 11)), (1, .int (nI j))] := hl
  have hlen := hS2.2.1
  refine lv_aload_n hx hb dX2_dropBehind_0 rfl (lv_at hl 0 rfl) ?_
  refine va_get (D := D) (ci := 2) (v := .int (nI S.length)) (C := RX2) (T := TX2) (N := 4) hx hb hts hiX2 hown hK hP 0 rfl rfl 3 (by decide) (hts (.fieldLink RX2 20 "StateKeeper$Snapshots" "size" "I") (List.mem_of_getElem? (i := 1) rfl)) (fun _ h9 => h9) rfl dX2_dropBehind_1 ?_
  refine lv_iconst (v := nI 1) hx hb dX2_dropBehind_4 (by decide) ?_
  refine lv_isub hx hb dX2_dropBehind_5 ?_
  refine lz_i (pk_sub (by omega)) ?_
  refine lv_iload_n hx hb dX2_dropBehind_6 rfl (lv_at hl 1 rfl) ?_
  refine lv_isub hx hb dX2_dropBehind_7 ?_
  refine lz_i (pk_sub (by omega)) ?_
  refine lv_istore_n (lv' := [(2, .int (nI ((S.length - 1) - j))), (0, .ref (o 11)), (1, .int (nI j))]) hx hb dX2_dropBehind_8 rfl hl (by decide) rfl (fun ls hl => ?_)
  refine lv_aload_n hx hb dX2_dropBehind_9 rfl (lv_at hl 1 rfl) ?_
  refine lv_iload_n hx hb dX2_dropBehind_10 rfl (lv_at hl 2 rfl) ?_
  refine lv_iconst (v := nI 1) hx hb dX2_dropBehind_11 (by decide) ?_
  refine lv_iadd hx hb dX2_dropBehind_12 ?_
  refine lz_i (nI_add _ _) ?_
  refine va_put (D := D) (ci := 2) (v := .int (nI (j + 1))) (ty := .int) (C := RX2) (T := TX2) (N := 4) hx hb hts hiX2 tyX2 tyX2_ok nmX2 hown hK hP hD hS 0 rfl rfl 3 (by decide) (hts (.fieldLink RX2 20 "StateKeeper$Snapshots" "size" "I") (List.mem_of_getElem? (i := 1) rfl)) (fun _ h9 => h9) rfl (by decide +kernel) rfl rfl (Nat.le_of_ble_eq_true rfl) dX2_dropBehind_13 (fun H locs hP hD hS => ?_)
  have hP : va_P D vwCl (((o 11), .inr (2, [.ref (o 12), .ref (o 13), .int (nI a), .int (nI (j + 1))])) :: ((o 12), .inl (cI, 16, .inl f1)) :: ((o 13), .inl (cQ, 16, .inr (.inr (.inr (.inr (fun i => if i < 16 then some (o (14 + i)) else none)))))) :: (rowsL cF o n M)) H := hP
  have hD : va_D A (((o 11), .inr (2, [.ref (o 12), .ref (o 13), .int (nI a), .int (nI (j + 1))])) :: ((o 12), .inl (cI, 16, .inl f1)) :: ((o 13), .inl (cQ, 16, .inr (.inr (.inr (.inr (fun i => if i < 16 then some (o (14 + i)) else none)))))) :: (rowsL cF o n M)) := hD
  refine lv_iload_n hx hb dX2_dropBehind_16 rfl (lv_at hl 0 rfl) ?_
  have hl2 : (S.take (j + 1)).length = j + 1 := by rw [List.length_take]; omega
  exact W.iret hx hb hr (fun t9 ht9 _ => ⟨⟨_, (((o 11), .inr (2, [.ref (o 12), .ref (o 13), .int (nI a), .int (nI (j + 1))])) :: ((o 12), .inl (cI, 16, .inl f1)) :: ((o 13), .inl (cQ, 16, .inr (.inr (.inr (.inr (fun i => if i < 16 then some (o (14 + i)) else none)))))) :: (rowsL cF o n M)), rfl, ⟨rfl, _, _, _, ha, snap_take hok _, by rw [hl2]⟩, by show va_P D vwCl _ t9.heap; rw [ht9]; exact hP⟩, hS.F ht9⟩) hS.2.2 dX2_dropBehind_17

set_option maxRecDepth 100000 in
set_option maxHeartbeats 4000000 in
/-- take(step, cells) -/
theorem c_X2_take {S : List sE} (ha : a < 16) (hok : snapOk n S a f1 M) (hS2 : sGood S) {T : Nat} {ce : Nat → UInt32} (hT : T < 2 ^ 30) (hn : n ≤ 256) (hTS : ∀ e ∈ S, e.1 ≤ T) (hp : 0 < S.length) : Met l yX2_take wsX2_take (rmk 4 0 0) (pcW l D cI cF cQ aT [.ref (o 11), .int (nI T), .ref (o 1)] (((o 1), .inl (cF, n, .inr (.inr (.inl ce)))) :: (snapW cI cF cQ o n a S.length f1 M)) sz) (va_Qi (fun (r : Int32) (w1 : va_W) => r = (if plc S (T : Int) = none ∧ S.length = 16 then nI 1 else nI 0) ∧ ∃ w2 : va_W, w1 = ((o 1), .inl (cF, n, .inr (.inr (.inl ce)))) :: w2 ∧ WS cI cF cQ o n (snapT S T ce) w2) (fun w1 t => va_P D vwCl w1 t.heap) (va_A (((o 1), .inl (cF, n, .inr (.inr (.inl ce)))) :: (snapW cI cF cQ o n a S.length f1 M)) sz)) 0 0 (va_A (((o 1), .inl (cF, n, .inr (.inr (.inl ce)))) :: (snapW cI cF cQ o n a S.length f1 M)) sz) := by
  refine lz_ofM (Qf := fun A => va_Qi (fun (r : Int32) (w1 : va_W) => r = (if plc S (T : Int) = none ∧ S.length = 16 then nI 1 else nI 0) ∧ ∃ w2 : va_W, w1 = ((o 1), .inl (cF, n, .inr (.inr (.inl ce)))) :: w2 ∧ WS cI cF cQ o n (snapT S T ce) w2) (fun w1 t => va_P D vwCl w1 t.heap) A) (cc := cX2_take) (maxL := 6) (ret := (some .boolean)) (by decide) rfl (Nat.le_of_ble_eq_true rfl) ?_
  intro p e s m below meth c A hAe hsz hx hb hr hlk hin hC hP hD hS ls hl
  clear hAe
  have hts := hC.1.2.2.2.2
  have hown : s.vm.findClass RX2 = some m.cls := hC.1.2.2.2.1
  have hml := hC.1.2.2.1
  have hA := hC.2.1
  have hK := hC.2.2.2.1
  have hnm := hC.2.2.2.2.1
  have hnf := hC.2.2.2.2.2.1
  have hiX2 : ∀ w ∈ u_ws RX2 TX2 4, w ∈ wsX2_take := fun _ h => List.mem_cons_of_mem _ (List.mem_append_right _ h)
  have hl : lv_has ls 6 [(0, .ref (o 11)), (1, .int (nI T)), (2, .ref (o 1))] := hl
  have hlen := hS2.2.1
  have hn9 : n < 2 ^ 31 := by omega
  have hT9 := hT
  refine lv_aload_n hx hb dX2_take_0 rfl (lv_at hl 0 rfl) ?_
  refine va_get (D := D) (ci := 2) (v := .int (nI S.length)) (C := RX2) (T := TX2) (N := 4) hx hb hts hiX2 hown hK hP 1 rfl rfl 3 (by decide) (hts (.fieldLink RX2 20 "StateKeeper$Snapshots" "size" "I") (List.mem_of_getElem? (i := 1) rfl)) (fun _ h9 => h9) rfl dX2_take_1 ?_
  refine lv_if_eq (tgt := 21) hx hb dX2_take_4 (by decide) (fun c_1 => absurd c_1 (fun q => absurd ((iz_ne0 (by omega)).mp q) (by omega))) (fun c_1 => ?_)
  refine lv_aload_n hx hb dX2_take_7 rfl (lv_at hl 0 rfl) ?_
  refine lv_aload_n hx hb dX2_take_8 rfl (lv_at hl 0 rfl) ?_
  refine va_get (D := D) (ci := 2) (v := .int (nI S.length)) (C := RX2) (T := TX2) (N := 4) hx hb hts hiX2 hown hK hP 1 rfl rfl 3 (by decide) (hts (.fieldLink RX2 20 "StateKeeper$Snapshots" "size" "I") (List.mem_of_getElem? (i := 1) rfl)) (fun _ h9 => h9) rfl dX2_take_9 ?_
  refine lv_iconst (v := nI 1) hx hb dX2_take_12 (by decide) ?_
  refine lv_isub hx hb dX2_take_13 ?_
  refine lz_i (pk_sub (by omega)) ?_
  have hPs : va_P D vwCl (snapW cI cF cQ o n a S.length f1 M) _ := lz_rightP (w := [((o 1), .inl (cF, n, .inr (.inr (.inl ce))))]) hP
  have hDs : va_D A (snapW cI cF cQ o n a S.length f1 M) := lz_rightD (w := [((o 1), .inl (cF, n, .inr (.inr (.inl ce))))]) hD
  obtain ⟨e9, he⟩ : ∃ e9, S[S.length - 1]? = some e9 := ⟨S[S.length - 1], List.getElem?_eq_getElem (by omega)⟩
  have he1 := (hok (S.length - 1) e9 he).1
  have heb := sGood_lt hS2 he
  have heT := hTS e9 (List.mem_of_getElem? he)
  refine vp_callSi (lz_runV (C := RX2) (As := [.int (nI (S.length - 1))]) (rest := []) hC hS hl (c_X2_stepOf (k := S.length) (j := S.length - 1) ha (by omega)) (cwV 1 hts gX2_take_X2_stepOf rfl rfl rfl (by decide +kernel) ⟨Nat.le_of_ble_eq_true rfl, Nat.le_of_ble_eq_true rfl⟩) hPs hDs (va_recv hK hPs (ci := 2) (q0 := 0) rfl rfl) rfl rfl (Nat.le_of_ble_eq_true rfl) dX2_take_14 ⟨Nat.le_of_ble_eq_true rfl, Nat.le_of_ble_eq_true rfl⟩).run (fun r_2 er_2 => ?_)
  subst er_2
  refine lz_i (y := nI e9.1) he1 ?_
  refine lv_iload_n hx hb dX2_take_17 rfl (lv_at hl 1 rfl) ?_
  refine lv_icmp_eq (tgt := 25) hx hb dX2_take_18 (by decide) (fun c_3 => ?_) (fun c_3 => ?_)
  · have h3 : (e9.1 : Int) = (T : Int) := by rw [(nI_eq (by omega) (by omega)).mp c_3]
    have hpl : plc S (T : Int) = some (S.length - 1) := plc_some hS2.1 he h3
    have hjl : S.length - 1 < S.length := by omega
    refine lv_iconst (v := nI 0) hx hb dX2_take_25 (by decide) ?_
    refine lv_istore_n (lv' := [(3, .int (nI 0)), (0, .ref (o 11)), (1, .int (nI T)), (2, .ref (o 1))]) hx hb dX2_take_26 rfl hl (by decide) rfl (fun ls hl => ?_)
    refine lv_iload_n hx hb dX2_take_27 rfl (lv_at hl 0 rfl) ?_
    refine lv_if_eq (tgt := 44) hx hb dX2_take_28 (by decide) (fun c_4 => ?_) (fun c_4 => absurd nI_0 c_4)
    refine lv_iconst (v := nI 0) hx hb dX2_take_44 (by decide) ?_
    refine lv_istore (lv' := [(4, .int (nI 0)), (3, .int (nI 0)), (0, .ref (o 11)), (1, .int (nI T)), (2, .ref (o 1))]) hx hb dX2_take_45 hl (by decide) rfl (fun ls hl => ?_)
    refine lv_iload hx hb dX2_take_47 (lv_at hl 0 rfl) ?_
    refine lv_if_eq (tgt := 71) hx hb dX2_take_49 (by decide) (fun c_5 => ?_) (fun c_5 => absurd nI_0 c_5)
    refine lv_iload_n hx hb dX2_take_71 rfl (lv_at hl 1 rfl) ?_
    refine lv_if_eq (tgt := 85) hx hb dX2_take_72 (by decide) (fun c_6 => ?_) (fun c_6 => absurd nI_0 c_6)
    refine lv_aload_n hx hb dX2_take_85 rfl (lv_at hl 2 rfl) ?_
    refine lv_aload_n hx hb dX2_take_86 rfl (lv_at hl 2 rfl) ?_
    refine va_get (D := D) (ci := 2) (v := .int (nI S.length)) (C := RX2) (T := TX2) (N := 4) hx hb hts hiX2 hown hK hP 1 rfl rfl 3 (by decide) (hts (.fieldLink RX2 20 "StateKeeper$Snapshots" "size" "I") (List.mem_of_getElem? (i := 1) rfl)) (fun _ h9 => h9) rfl dX2_take_87 ?_
    refine lv_iconst (v := nI 1) hx hb dX2_take_90 (by decide) ?_
    refine lv_isub hx hb dX2_take_91 ?_
    refine lz_i (pk_sub (by omega)) ?_
    refine lz_i (y := nI (S.length - 1)) (by rfl) ?_
    have hPs : va_P D vwCl (snapW cI cF cQ o n a S.length f1 M) _ := lz_rightP (w := [((o 1), .inl (cF, n, .inr (.inr (.inl ce))))]) hP
    have hDs : va_D A (snapW cI cF cQ o n a S.length f1 M) := lz_rightD (w := [((o 1), .inl (cF, n, .inr (.inr (.inl ce))))]) hD
    refine vp_callSi (lz_runV (C := RX2) (As := [.int (nI (S.length - 1))]) (rest := []) hC hS hl (c_X2_slot (k := S.length) ha (by omega)) (cwV 1 hts gX2_take_X2_slot rfl rfl rfl (by decide +kernel) ⟨Nat.le_of_ble_eq_true rfl, Nat.le_of_ble_eq_true rfl⟩) hPs hDs (va_recv hK hPs (ci := 2) (q0 := 0) rfl rfl) rfl rfl (Nat.le_of_ble_eq_true rfl) dX2_take_92 ⟨Nat.le_of_ble_eq_true rfl, Nat.le_of_ble_eq_true rfl⟩).run (fun r_7 er_7 => ?_)
    subst er_7
    have hlt : (a + (S.length - 1)) % 16 < 16 := Nat.mod_lt _ (by decide)
    refine lv_istore (lv' := [(5, .int (nI ((a + (S.length - 1)) % 16))), (4, .int (nI 0)), (3, .int (nI 0)), (0, .ref (o 11)), (1, .int (nI T)), (2, .ref (o 1))]) hx hb dX2_take_95 hl (by decide) rfl (fun ls hl => ?_)
    refine lv_aload_n hx hb dX2_take_97 rfl (lv_at hl 3 rfl) ?_
    refine va_get (D := D) (ci := 2) (v := .ref (o 12)) (C := RX2) (T := TX2) (N := 4) hx hb hts hiX2 hown hK hP 1 rfl rfl 0 (by decide) (hts (.fieldLink RX2 9 "StateKeeper$Snapshots" "steps" "[I") (List.mem_of_getElem? (i := 3) rfl)) (fun _ h9 => h9) rfl dX2_take_98 ?_
    refine lv_iload hx hb dX2_take_101 (lv_at hl 0 rfl) ?_
    refine lv_iload_n hx hb dX2_take_103 rfl (lv_at hl 4 rfl) ?_
    refine lz_iast hx hb hK hP hD hS 2 1 rfl rfl (by omega) (by omega) dX2_take_104 (fun H locs hP hD hS => ?_)
    have hP : va_P D vwCl (((o 1), .inl (cF, n, .inr (.inr (.inl ce)))) :: ((o 11), .inr (2, [.ref (o 12), .ref (o 13), .int (nI a), .int (nI S.length)])) :: ((o 12), .inl (cI, 16, .inl (upd f1 ((a + (S.length - 1)) % 16) (nI T)))) :: ((o 13), .inl (cQ, 16, .inr (.inr (.inr (.inr (fun i => if i < 16 then some (o (14 + i)) else none)))))) :: (rowsL cF o n M)) H := hP
    have hD : va_D A (((o 1), .inl (cF, n, .inr (.inr (.inl ce)))) :: ((o 11), .inr (2, [.ref (o 12), .ref (o 13), .int (nI a), .int (nI S.length)])) :: ((o 12), .inl (cI, 16, .inl (upd f1 ((a + (S.length - 1)) % 16) (nI T)))) :: ((o 13), .inl (cQ, 16, .inr (.inr (.inr (.inr (fun i => if i < 16 then some (o (14 + i)) else none)))))) :: (rowsL cF o n M)) := hD
    refine lv_aload_n hx hb dX2_take_105 rfl (lv_at hl 5 rfl) ?_
    refine lv_iconst (v := nI 0) hx hb dX2_take_106 (by decide) ?_
    refine lv_aload_n hx hb dX2_take_107 rfl (lv_at hl 3 rfl) ?_
    refine va_get (D := D) (ci := 2) (v := .ref (o 13)) (C := RX2) (T := TX2) (N := 4) hx hb hts hiX2 hown hK hP 1 rfl rfl 1 (by decide) (hts (.fieldLink RX2 17 "StateKeeper$Snapshots" "rows" "[[F") (List.mem_of_getElem? (i := 4) rfl)) (fun _ h9 => h9) rfl dX2_take_108 ?_
    refine lv_iload hx hb dX2_take_111 (lv_at hl 0 rfl) ?_
    refine lz_aald (r := o (14 + (a + (S.length - 1)) % 16)) (t := .float) hx hb hK hP 3 2 rfl rfl hlt (by decide) (if_pos hlt) dX2_take_113 ?_
    refine lv_iconst (v := nI 0) hx hb dX2_take_114 (by decide) ?_
    refine lv_aload_n hx hb dX2_take_115 rfl (lv_at hl 5 rfl) ?_
    refine va_alen (v := nI n) hx hb hK hP 0 0 rfl rfl rfl dX2_take_116 ?_
    refine lz_toRow hx hb (hml.trans hl.1.symm) hown (hts (.methodLink RX2 37 arraycopyName) (List.mem_of_getElem? (i := 5) rfl)) (hts (.native arraycopyName) (List.mem_of_getElem? (i := 6) rfl)) (hts (.static arraycopyName) (List.mem_of_getElem? (i := 7) rfl)) (hts (.initialized "java/lang/System") (List.mem_of_getElem? (i := 8) rfl)) hK hP hD hS 0 rfl hlt hn9 (Nat.le_of_ble_eq_true rfl) (Nat.le_of_ble_eq_true rfl) dX2_take_117 (fun H locs hP hD hS => ?_)
    refine lv_iload hx hb dX2_take_120 (lv_at hl 1 rfl) ?_
    exact W.zret hx hb hr (by first | rfl | decide) (fun t9 ht9 _ => ⟨⟨_, (((o 1), .inl (cF, n, .inr (.inr (.inl ce)))) :: ((o 11), .inr (2, [.ref (o 12), .ref (o 13), .int (nI a), .int (nI S.length)])) :: ((o 12), .inl (cI, 16, .inl (upd f1 ((a + (S.length - 1)) % 16) (nI T)))) :: ((o 13), .inl (cQ, 16, .inr (.inr (.inr (.inr (fun i => if i < 16 then some (o (14 + i)) else none)))))) :: (rowsL cF o n (va_up M ((a + (S.length - 1)) % 16) (va_cpy ce (M ((a + (S.length - 1)) % 16)) 0 0 n)))), rfl, ⟨by rw [if_neg (fun q => by rw [hpl] at q; cases q.1)], _, rfl, _, _, _, ha, by unfold snapT; rw [hpl]; exact snap_upd (j := S.length - 1) hok (by omega) (by rw [List.length_set]; omega) (fun i x9 hi => by
            rw [List.getElem?_set] at hi
            by_cases q : S.length - 1 = i
            · subst q
              rw [if_pos rfl, if_pos hjl] at hi
              exact Or.inl ⟨rfl, (Option.some.inj hi).symm⟩
            · rw [if_neg q] at hi
              exact Or.inr ⟨Ne.symm q, hi⟩), by unfold snapT; rw [hpl, List.length_set]⟩, by show va_P D vwCl _ t9.heap; rw [ht9]; exact hP⟩, hS.F ht9⟩) hS.2.2 dX2_take_122
  · have h3 : ¬ (e9.1 : Int) = (T : Int) := fun q => c_3 (by rw [show e9.1 = T by omega])
    have hpl : plc S (T : Int) = none := plc_none fun x9 hx9 hz => by
      obtain ⟨i, hi⟩ := List.getElem?_of_mem hx9
      have hil : i < S.length := (List.getElem?_eq_some_iff.mp hi).1
      have q2 := (hsn_iff hS2.1 (b := (e9.1 : Int)) hi)
      have q3 := (hsn_iff hS2.1 (b := (e9.1 : Int)) he)
      omega
    refine lv_iconst (v := nI 1) hx hb dX2_take_21 (by decide) ?_
    refine lv_goto (tgt := 26) hx hb dX2_take_22 (by decide) ?_
    refine lv_istore_n (lv' := [(3, .int (nI 1)), (0, .ref (o 11)), (1, .int (nI T)), (2, .ref (o 1))]) hx hb dX2_take_26 rfl hl (by decide) rfl (fun ls hl => ?_)
    refine lv_iload_n hx hb dX2_take_27 rfl (lv_at hl 0 rfl) ?_
    refine lv_if_eq (tgt := 44) hx hb dX2_take_28 (by decide) (fun c1 => absurd c1 (by decide)) (fun c1 => ?_)
    refine lv_aload_n hx hb dX2_take_31 rfl (lv_at hl 1 rfl) ?_
    refine va_get (D := D) (ci := 2) (v := .int (nI S.length)) (C := RX2) (T := TX2) (N := 4) hx hb hts hiX2 hown hK hP 1 rfl rfl 3 (by decide) (hts (.fieldLink RX2 20 "StateKeeper$Snapshots" "size" "I") (List.mem_of_getElem? (i := 1) rfl)) (fun _ h9 => h9) rfl dX2_take_32 ?_
    refine lv_bipush (v := nI 16) hx hb dX2_take_35 (by decide) ?_
    refine lv_icmp_ne (tgt := 44) hx hb dX2_take_37 (by decide) (fun c_8 => ?_) (fun c_8 => ?_)
    · have h16 : ¬ S.length = 16 := fun q => c_8 ((nI_eq (by omega) (by omega)).mpr q)
      refine lv_iconst (v := nI 0) hx hb dX2_take_44 (by decide) ?_
      refine lv_istore (lv' := [(4, .int (nI 0)), (3, .int (nI 1)), (0, .ref (o 11)), (1, .int (nI T)), (2, .ref (o 1))]) hx hb dX2_take_45 hl (by decide) rfl (fun ls hl => ?_)
      refine lv_iload hx hb dX2_take_47 (lv_at hl 0 rfl) ?_
      refine lv_if_eq (tgt := 71) hx hb dX2_take_49 (by decide) (fun c_9 => ?_) (fun c_9 => absurd nI_0 c_9)
      refine lv_iload_n hx hb dX2_take_71 rfl (lv_at hl 1 rfl) ?_
      refine lv_if_eq (tgt := 85) hx hb dX2_take_72 (by decide) (fun c1 => absurd c1 (by decide)) (fun c1 => ?_)
      refine lv_aload_n hx hb dX2_take_75 rfl (lv_at hl 2 rfl) ?_
      refine lv_dup hx hb dX2_take_76 rfl ?_
      refine va_get (D := D) (ci := 2) (v := .int (nI S.length)) (C := RX2) (T := TX2) (N := 4) hx hb hts hiX2 hown hK hP 1 rfl rfl 3 (by decide) (hts (.fieldLink RX2 20 "StateKeeper$Snapshots" "size" "I") (List.mem_of_getElem? (i := 1) rfl)) (fun _ h9 => h9) rfl dX2_take_77 ?_
      refine lv_iconst (v := nI 1) hx hb dX2_take_80 (by decide) ?_
      refine lv_iadd hx hb dX2_take_81 ?_
      refine lz_i (nI_add _ _) ?_
      refine va_put (D := D) (ci := 2) (v := .int (nI (S.length + 1))) (ty := .int) (C := RX2) (T := TX2) (N := 4) hx hb hts hiX2 tyX2 tyX2_ok nmX2 hown hK hP hD hS 1 rfl rfl 3 (by decide) (hts (.fieldLink RX2 20 "StateKeeper$Snapshots" "size" "I") (List.mem_of_getElem? (i := 1) rfl)) (fun _ h9 => h9) rfl (by decide +kernel) rfl rfl (Nat.le_of_ble_eq_true rfl) dX2_take_82 (fun H locs hP hD hS => ?_)
      have hP : va_P D vwCl (((o 1), .inl (cF, n, .inr (.inr (.inl ce)))) :: ((o 11), .inr (2, [.ref (o 12), .ref (o 13), .int (nI a), .int (nI (S.length + 1))])) :: ((o 12), .inl (cI, 16, .inl f1)) :: ((o 13), .inl (cQ, 16, .inr (.inr (.inr (.inr (fun i => if i < 16 then some (o (14 + i)) else none)))))) :: (rowsL cF o n M)) H := hP
      have hD : va_D A (((o 1), .inl (cF, n, .inr (.inr (.inl ce)))) :: ((o 11), .inr (2, [.ref (o 12), .ref (o 13), .int (nI a), .int (nI (S.length + 1))])) :: ((o 12), .inl (cI, 16, .inl f1)) :: ((o 13), .inl (cQ, 16, .inr (.inr (.inr (.inr (fun i => if i < 16 then some (o (14 + i)) else none)))))) :: (rowsL cF o n M)) := hD
      refine lv_aload_n hx hb dX2_take_85 rfl (lv_at hl 2 rfl) ?_
      refine lv_aload_n hx hb dX2_take_86 rfl (lv_at hl 2 rfl) ?_
      refine va_get (D := D) (ci := 2) (v := .int (nI (S.length + 1))) (C := RX2) (T := TX2) (N := 4) hx hb hts hiX2 hown hK hP 1 rfl rfl 3 (by decide) (hts (.fieldLink RX2 20 "StateKeeper$Snapshots" "size" "I") (List.mem_of_getElem? (i := 1) rfl)) (fun _ h9 => h9) rfl dX2_take_87 ?_
      refine lv_iconst (v := nI 1) hx hb dX2_take_90 (by decide) ?_
      refine lv_isub hx hb dX2_take_91 ?_
      refine lz_i (pk_sub (by omega)) ?_
      refine lz_i (y := nI S.length) (by rfl) ?_
      have hPs : va_P D vwCl (snapW cI cF cQ o n a (S.length + 1) f1 M) _ := lz_rightP (w := [((o 1), .inl (cF, n, .inr (.inr (.inl ce))))]) hP
      have hDs : va_D A (snapW cI cF cQ o n a (S.length + 1) f1 M) := lz_rightD (w := [((o 1), .inl (cF, n, .inr (.inr (.inl ce))))]) hD
      refine vp_callSi (lz_runV (C := RX2) (As := [.int (nI S.length)]) (rest := []) hC hS hl (c_X2_slot (k := (S.length + 1)) ha (by omega)) (cwV 1 hts gX2_take_X2_slot rfl rfl rfl (by decide +kernel) ⟨Nat.le_of_ble_eq_true rfl, Nat.le_of_ble_eq_true rfl⟩) hPs hDs (va_recv hK hPs (ci := 2) (q0 := 0) rfl rfl) rfl rfl (Nat.le_of_ble_eq_true rfl) dX2_take_92 ⟨Nat.le_of_ble_eq_true rfl, Nat.le_of_ble_eq_true rfl⟩).run (fun r_10 er_10 => ?_)
      subst er_10
      have hlt : (a + S.length) % 16 < 16 := Nat.mod_lt _ (by decide)
      refine lv_istore (lv' := [(5, .int (nI ((a + S.length) % 16))), (4, .int (nI 0)), (3, .int (nI 1)), (0, .ref (o 11)), (1, .int (nI T)), (2, .ref (o 1))]) hx hb dX2_take_95 hl (by decide) rfl (fun ls hl => ?_)
      refine lv_aload_n hx hb dX2_take_97 rfl (lv_at hl 3 rfl) ?_
      refine va_get (D := D) (ci := 2) (v := .ref (o 12)) (C := RX2) (T := TX2) (N := 4) hx hb hts hiX2 hown hK hP 1 rfl rfl 0 (by decide) (hts (.fieldLink RX2 9 "StateKeeper$Snapshots" "steps" "[I") (List.mem_of_getElem? (i := 3) rfl)) (fun _ h9 => h9) rfl dX2_take_98 ?_
      refine lv_iload hx hb dX2_take_101 (lv_at hl 0 rfl) ?_
      refine lv_iload_n hx hb dX2_take_103 rfl (lv_at hl 4 rfl) ?_
      refine lz_iast hx hb hK hP hD hS 2 1 rfl rfl (by omega) (by omega) dX2_take_104 (fun H locs hP hD hS => ?_)
      have hP : va_P D vwCl (((o 1), .inl (cF, n, .inr (.inr (.inl ce)))) :: ((o 11), .inr (2, [.ref (o 12), .ref (o 13), .int (nI a), .int (nI (S.length + 1))])) :: ((o 12), .inl (cI, 16, .inl (upd f1 ((a + S.length) % 16) (nI T)))) :: ((o 13), .inl (cQ, 16, .inr (.inr (.inr (.inr (fun i => if i < 16 then some (o (14 + i)) else none)))))) :: (rowsL cF o n M)) H := hP
      have hD : va_D A (((o 1), .inl (cF, n, .inr (.inr (.inl ce)))) :: ((o 11), .inr (2, [.ref (o 12), .ref (o 13), .int (nI a), .int (nI (S.length + 1))])) :: ((o 12), .inl (cI, 16, .inl (upd f1 ((a + S.length) % 16) (nI T)))) :: ((o 13), .inl (cQ, 16, .inr (.inr (.inr (.inr (fun i => if i < 16 then some (o (14 + i)) else none)))))) :: (rowsL cF o n M)) := hD
      refine lv_aload_n hx hb dX2_take_105 rfl (lv_at hl 5 rfl) ?_
      refine lv_iconst (v := nI 0) hx hb dX2_take_106 (by decide) ?_
      refine lv_aload_n hx hb dX2_take_107 rfl (lv_at hl 3 rfl) ?_
      refine va_get (D := D) (ci := 2) (v := .ref (o 13)) (C := RX2) (T := TX2) (N := 4) hx hb hts hiX2 hown hK hP 1 rfl rfl 1 (by decide) (hts (.fieldLink RX2 17 "StateKeeper$Snapshots" "rows" "[[F") (List.mem_of_getElem? (i := 4) rfl)) (fun _ h9 => h9) rfl dX2_take_108 ?_
      refine lv_iload hx hb dX2_take_111 (lv_at hl 0 rfl) ?_
      refine lz_aald (r := o (14 + (a + S.length) % 16)) (t := .float) hx hb hK hP 3 2 rfl rfl hlt (by decide) (if_pos hlt) dX2_take_113 ?_
      refine lv_iconst (v := nI 0) hx hb dX2_take_114 (by decide) ?_
      refine lv_aload_n hx hb dX2_take_115 rfl (lv_at hl 5 rfl) ?_
      refine va_alen (v := nI n) hx hb hK hP 0 0 rfl rfl rfl dX2_take_116 ?_
      refine lz_toRow hx hb (hml.trans hl.1.symm) hown (hts (.methodLink RX2 37 arraycopyName) (List.mem_of_getElem? (i := 5) rfl)) (hts (.native arraycopyName) (List.mem_of_getElem? (i := 6) rfl)) (hts (.static arraycopyName) (List.mem_of_getElem? (i := 7) rfl)) (hts (.initialized "java/lang/System") (List.mem_of_getElem? (i := 8) rfl)) hK hP hD hS 0 rfl hlt hn9 (Nat.le_of_ble_eq_true rfl) (Nat.le_of_ble_eq_true rfl) dX2_take_117 (fun H locs hP hD hS => ?_)
      refine lv_iload hx hb dX2_take_120 (lv_at hl 1 rfl) ?_
      exact W.zret hx hb hr (by first | rfl | decide) (fun t9 ht9 _ => ⟨⟨_, (((o 1), .inl (cF, n, .inr (.inr (.inl ce)))) :: ((o 11), .inr (2, [.ref (o 12), .ref (o 13), .int (nI a), .int (nI (S.length + 1))])) :: ((o 12), .inl (cI, 16, .inl (upd f1 ((a + S.length) % 16) (nI T)))) :: ((o 13), .inl (cQ, 16, .inr (.inr (.inr (.inr (fun i => if i < 16 then some (o (14 + i)) else none)))))) :: (rowsL cF o n (va_up M ((a + S.length) % 16) (va_cpy ce (M ((a + S.length) % 16)) 0 0 n)))), rfl, ⟨by rw [if_neg (fun q => h16 q.2)], _, rfl, _, _, _, ha, by unfold snapT; rw [hpl, if_neg h16]; exact snap_upd (j := S.length) hok (by omega) (by rw [List.length_append]; show S.length + 1 ≤ 16; omega) (fun i x9 hi => by
              by_cases q : i < S.length
              · rw [List.getElem?_append_left q] at hi; exact Or.inr ⟨by omega, hi⟩
              · rw [List.getElem?_append_right (by omega)] at hi
                have hl9 : i - S.length < 1 := (List.getElem?_eq_some_iff.mp hi).1
                rw [show i - S.length = 0 by omega] at hi
                exact Or.inl ⟨by omega, (Option.some.inj hi).symm⟩), by unfold snapT; rw [hpl, if_neg h16, List.length_append]; rfl⟩, by show va_P D vwCl _ t9.heap; rw [ht9]; exact hP⟩, hS.F ht9⟩) hS.2.2 dX2_take_122
    · have h16 : S.length = 16 := (nI_eq (by omega) (by omega)).mp c_8
      refine lv_iconst (v := nI 1) hx hb dX2_take_40 (by decide) ?_
      refine lv_goto (tgt := 45) hx hb dX2_take_41 (by decide) ?_
      refine lv_istore (lv' := [(4, .int (nI 1)), (3, .int (nI 1)), (0, .ref (o 11)), (1, .int (nI T)), (2, .ref (o 1))]) hx hb dX2_take_45 hl (by decide) rfl (fun ls hl => ?_)
      refine lv_iload hx hb dX2_take_47 (lv_at hl 0 rfl) ?_
      refine lv_if_eq (tgt := 71) hx hb dX2_take_49 (by decide) (fun c1 => absurd c1 (by decide)) (fun c1 => ?_)
      refine lv_aload_n hx hb dX2_take_52 rfl (lv_at hl 2 rfl) ?_
      refine lv_aload_n hx hb dX2_take_53 rfl (lv_at hl 2 rfl) ?_
      refine lv_iconst (v := nI 1) hx hb dX2_take_54 (by decide) ?_
      have hPs : va_P D vwCl (snapW cI cF cQ o n a S.length f1 M) _ := lz_rightP (w := [((o 1), .inl (cF, n, .inr (.inr (.inl ce))))]) hP
      have hDs : va_D A (snapW cI cF cQ o n a S.length f1 M) := lz_rightD (w := [((o 1), .inl (cF, n, .inr (.inr (.inl ce))))]) hD
      refine vp_callSi (lz_runV (C := RX2) (As := [.int (nI 1)]) (rest := [.ref (o 11)]) hC hS hl (c_X2_slot (k := S.length) ha (by omega)) (cwV 1 hts gX2_take_X2_slot rfl rfl rfl (by decide +kernel) ⟨Nat.le_of_ble_eq_true rfl, Nat.le_of_ble_eq_true rfl⟩) hPs hDs (va_recv hK hPs (ci := 2) (q0 := 0) rfl rfl) rfl rfl (Nat.le_of_ble_eq_true rfl) dX2_take_55 ⟨Nat.le_of_ble_eq_true rfl, Nat.le_of_ble_eq_true rfl⟩).run (fun r_11 er_11 => ?_)
      subst er_11
      refine va_put (D := D) (ci := 2) (v := .int (nI ((a + 1) % 16))) (ty := .int) (C := RX2) (T := TX2) (N := 4) hx hb hts hiX2 tyX2 tyX2_ok nmX2 hown hK hP hD hS 1 rfl rfl 2 (by decide) (hts (.fieldLink RX2 24 "StateKeeper$Snapshots" "first" "I") (List.mem_of_getElem? (i := 2) rfl)) (fun _ h9 => h9) rfl (by decide +kernel) rfl rfl (Nat.le_of_ble_eq_true rfl) dX2_take_58 (fun H locs hP hD hS => ?_)
      have hP : va_P D vwCl (((o 1), .inl (cF, n, .inr (.inr (.inl ce)))) :: ((o 11), .inr (2, [.ref (o 12), .ref (o 13), .int (nI ((a + 1) % 16)), .int (nI S.length)])) :: ((o 12), .inl (cI, 16, .inl f1)) :: ((o 13), .inl (cQ, 16, .inr (.inr (.inr (.inr (fun i => if i < 16 then some (o (14 + i)) else none)))))) :: (rowsL cF o n M)) H := hP
      have hD : va_D A (((o 1), .inl (cF, n, .inr (.inr (.inl ce)))) :: ((o 11), .inr (2, [.ref (o 12), .ref (o 13), .int (nI ((a + 1) % 16)), .int (nI S.length)])) :: ((o 12), .inl (cI, 16, .inl f1)) :: ((o 13), .inl (cQ, 16, .inr (.inr (.inr (.inr (fun i => if i < 16 then some (o (14 + i)) else none)))))) :: (rowsL cF o n M)) := hD
      refine lv_aload_n hx hb dX2_take_61 rfl (lv_at hl 2 rfl) ?_
      refine lv_dup hx hb dX2_take_62 rfl ?_
      refine va_get (D := D) (ci := 2) (v := .int (nI S.length)) (C := RX2) (T := TX2) (N := 4) hx hb hts hiX2 hown hK hP 1 rfl rfl 3 (by decide) (hts (.fieldLink RX2 20 "StateKeeper$Snapshots" "size" "I") (List.mem_of_getElem? (i := 1) rfl)) (fun _ h9 => h9) rfl dX2_take_63 ?_
      refine lv_iconst (v := nI 1) hx hb dX2_take_66 (by decide) ?_
      refine lv_isub hx hb dX2_take_67 ?_
      refine lz_i (pk_sub (by omega)) ?_
      refine va_put (D := D) (ci := 2) (v := .int (nI (S.length - 1))) (ty := .int) (C := RX2) (T := TX2) (N := 4) hx hb hts hiX2 tyX2 tyX2_ok nmX2 hown hK hP hD hS 1 rfl rfl 3 (by decide) (hts (.fieldLink RX2 20 "StateKeeper$Snapshots" "size" "I") (List.mem_of_getElem? (i := 1) rfl)) (fun _ h9 => h9) rfl (by decide +kernel) rfl rfl (Nat.le_of_ble_eq_true rfl) dX2_take_68 (fun H locs hP hD hS => ?_)
      have hP : va_P D vwCl (((o 1), .inl (cF, n, .inr (.inr (.inl ce)))) :: ((o 11), .inr (2, [.ref (o 12), .ref (o 13), .int (nI ((a + 1) % 16)), .int (nI (S.length - 1))])) :: ((o 12), .inl (cI, 16, .inl f1)) :: ((o 13), .inl (cQ, 16, .inr (.inr (.inr (.inr (fun i => if i < 16 then some (o (14 + i)) else none)))))) :: (rowsL cF o n M)) H := hP
      have hD : va_D A (((o 1), .inl (cF, n, .inr (.inr (.inl ce)))) :: ((o 11), .inr (2, [.ref (o 12), .ref (o 13), .int (nI ((a + 1) % 16)), .int (nI (S.length - 1))])) :: ((o 12), .inl (cI, 16, .inl f1)) :: ((o 13), .inl (cQ, 16, .inr (.inr (.inr (.inr (fun i => if i < 16 then some (o (14 + i)) else none)))))) :: (rowsL cF o n M)) := hD
      refine lv_iload_n hx hb dX2_take_71 rfl (lv_at hl 1 rfl) ?_
      refine lv_if_eq (tgt := 85) hx hb dX2_take_72 (by decide) (fun c1 => absurd c1 (by decide)) (fun c1 => ?_)
      refine lv_aload_n hx hb dX2_take_75 rfl (lv_at hl 2 rfl) ?_
      refine lv_dup hx hb dX2_take_76 rfl ?_
      refine va_get (D := D) (ci := 2) (v := .int (nI (S.length - 1))) (C := RX2) (T := TX2) (N := 4) hx hb hts hiX2 hown hK hP 1 rfl rfl 3 (by decide) (hts (.fieldLink RX2 20 "StateKeeper$Snapshots" "size" "I") (List.mem_of_getElem? (i := 1) rfl)) (fun _ h9 => h9) rfl dX2_take_77 ?_
      refine lv_iconst (v := nI 1) hx hb dX2_take_80 (by decide) ?_
      refine lv_iadd hx hb dX2_take_81 ?_
      refine lz_i (nI_add _ _) ?_
      refine va_put (D := D) (ci := 2) (v := .int (nI ((S.length - 1) + 1))) (ty := .int) (C := RX2) (T := TX2) (N := 4) hx hb hts hiX2 tyX2 tyX2_ok nmX2 hown hK hP hD hS 1 rfl rfl 3 (by decide) (hts (.fieldLink RX2 20 "StateKeeper$Snapshots" "size" "I") (List.mem_of_getElem? (i := 1) rfl)) (fun _ h9 => h9) rfl (by decide +kernel) rfl rfl (Nat.le_of_ble_eq_true rfl) dX2_take_82 (fun H locs hP hD hS => ?_)
      have hP : va_P D vwCl (((o 1), .inl (cF, n, .inr (.inr (.inl ce)))) :: ((o 11), .inr (2, [.ref (o 12), .ref (o 13), .int (nI ((a + 1) % 16)), .int (nI ((S.length - 1) + 1))])) :: ((o 12), .inl (cI, 16, .inl f1)) :: ((o 13), .inl (cQ, 16, .inr (.inr (.inr (.inr (fun i => if i < 16 then some (o (14 + i)) else none)))))) :: (rowsL cF o n M)) H := hP
      have hD : va_D A (((o 1), .inl (cF, n, .inr (.inr (.inl ce)))) :: ((o 11), .inr (2, [.ref (o 12), .ref (o 13), .int (nI ((a + 1) % 16)), .int (nI ((S.length - 1) + 1))])) :: ((o 12), .inl (cI, 16, .inl f1)) :: ((o 13), .inl (cQ, 16, .inr (.inr (.inr (.inr (fun i => if i < 16 then some (o (14 + i)) else none)))))) :: (rowsL cF o n M)) := hD
      have hht : S.tail.length = S.length - 1 := List.length_tail
      refine lv_aload_n hx hb dX2_take_85 rfl (lv_at hl 2 rfl) ?_
      refine lv_aload_n hx hb dX2_take_86 rfl (lv_at hl 2 rfl) ?_
      refine va_get (D := D) (ci := 2) (v := .int (nI ((S.length - 1) + 1))) (C := RX2) (T := TX2) (N := 4) hx hb hts hiX2 hown hK hP 1 rfl rfl 3 (by decide) (hts (.fieldLink RX2 20 "StateKeeper$Snapshots" "size" "I") (List.mem_of_getElem? (i := 1) rfl)) (fun _ h9 => h9) rfl dX2_take_87 ?_
      refine lv_iconst (v := nI 1) hx hb dX2_take_90 (by decide) ?_
      refine lv_isub hx hb dX2_take_91 ?_
      refine lz_i (pk_sub (by omega)) ?_
      refine lz_i (y := nI (S.length - 1)) (by rfl) ?_
      have hPs : va_P D vwCl (snapW cI cF cQ o n ((a + 1) % 16) (S.length - 1 + 1) f1 M) _ := lz_rightP (w := [((o 1), .inl (cF, n, .inr (.inr (.inl ce))))]) hP
      have hDs : va_D A (snapW cI cF cQ o n ((a + 1) % 16) (S.length - 1 + 1) f1 M) := lz_rightD (w := [((o 1), .inl (cF, n, .inr (.inr (.inl ce))))]) hD
      refine vp_callSi (lz_runV (C := RX2) (As := [.int (nI (S.length - 1))]) (rest := []) hC hS hl (c_X2_slot (k := (S.length - 1 + 1)) (Nat.mod_lt _ (by decide)) (by omega)) (cwV 1 hts gX2_take_X2_slot rfl rfl rfl (by decide +kernel) ⟨Nat.le_of_ble_eq_true rfl, Nat.le_of_ble_eq_true rfl⟩) hPs hDs (va_recv hK hPs (ci := 2) (q0 := 0) rfl rfl) rfl rfl (Nat.le_of_ble_eq_true rfl) dX2_take_92 ⟨Nat.le_of_ble_eq_true rfl, Nat.le_of_ble_eq_true rfl⟩).run (fun r_12 er_12 => ?_)
      subst er_12
      have hlt : (((a + 1) % 16) + (S.length - 1)) % 16 < 16 := Nat.mod_lt _ (by decide)
      refine lv_istore (lv' := [(5, .int (nI ((((a + 1) % 16) + (S.length - 1)) % 16))), (4, .int (nI 1)), (3, .int (nI 1)), (0, .ref (o 11)), (1, .int (nI T)), (2, .ref (o 1))]) hx hb dX2_take_95 hl (by decide) rfl (fun ls hl => ?_)
      refine lv_aload_n hx hb dX2_take_97 rfl (lv_at hl 3 rfl) ?_
      refine va_get (D := D) (ci := 2) (v := .ref (o 12)) (C := RX2) (T := TX2) (N := 4) hx hb hts hiX2 hown hK hP 1 rfl rfl 0 (by decide) (hts (.fieldLink RX2 9 "StateKeeper$Snapshots" "steps" "[I") (List.mem_of_getElem? (i := 3) rfl)) (fun _ h9 => h9) rfl dX2_take_98 ?_
      refine lv_iload hx hb dX2_take_101 (lv_at hl 0 rfl) ?_
      refine lv_iload_n hx hb dX2_take_103 rfl (lv_at hl 4 rfl) ?_
      refine lz_iast hx hb hK hP hD hS 2 1 rfl rfl (by omega) (by omega) dX2_take_104 (fun H locs hP hD hS => ?_)
      have hP : va_P D vwCl (((o 1), .inl (cF, n, .inr (.inr (.inl ce)))) :: ((o 11), .inr (2, [.ref (o 12), .ref (o 13), .int (nI ((a + 1) % 16)), .int (nI ((S.length - 1) + 1))])) :: ((o 12), .inl (cI, 16, .inl (upd f1 ((((a + 1) % 16) + (S.length - 1)) % 16) (nI T)))) :: ((o 13), .inl (cQ, 16, .inr (.inr (.inr (.inr (fun i => if i < 16 then some (o (14 + i)) else none)))))) :: (rowsL cF o n M)) H := hP
      have hD : va_D A (((o 1), .inl (cF, n, .inr (.inr (.inl ce)))) :: ((o 11), .inr (2, [.ref (o 12), .ref (o 13), .int (nI ((a + 1) % 16)), .int (nI ((S.length - 1) + 1))])) :: ((o 12), .inl (cI, 16, .inl (upd f1 ((((a + 1) % 16) + (S.length - 1)) % 16) (nI T)))) :: ((o 13), .inl (cQ, 16, .inr (.inr (.inr (.inr (fun i => if i < 16 then some (o (14 + i)) else none)))))) :: (rowsL cF o n M)) := hD
      refine lv_aload_n hx hb dX2_take_105 rfl (lv_at hl 5 rfl) ?_
      refine lv_iconst (v := nI 0) hx hb dX2_take_106 (by decide) ?_
      refine lv_aload_n hx hb dX2_take_107 rfl (lv_at hl 3 rfl) ?_
      refine va_get (D := D) (ci := 2) (v := .ref (o 13)) (C := RX2) (T := TX2) (N := 4) hx hb hts hiX2 hown hK hP 1 rfl rfl 1 (by decide) (hts (.fieldLink RX2 17 "StateKeeper$Snapshots" "rows" "[[F") (List.mem_of_getElem? (i := 4) rfl)) (fun _ h9 => h9) rfl dX2_take_108 ?_
      refine lv_iload hx hb dX2_take_111 (lv_at hl 0 rfl) ?_
      refine lz_aald (r := o (14 + (((a + 1) % 16) + (S.length - 1)) % 16)) (t := .float) hx hb hK hP 3 2 rfl rfl hlt (by decide) (if_pos hlt) dX2_take_113 ?_
      refine lv_iconst (v := nI 0) hx hb dX2_take_114 (by decide) ?_
      refine lv_aload_n hx hb dX2_take_115 rfl (lv_at hl 5 rfl) ?_
      refine va_alen (v := nI n) hx hb hK hP 0 0 rfl rfl rfl dX2_take_116 ?_
      refine lz_toRow hx hb (hml.trans hl.1.symm) hown (hts (.methodLink RX2 37 arraycopyName) (List.mem_of_getElem? (i := 5) rfl)) (hts (.native arraycopyName) (List.mem_of_getElem? (i := 6) rfl)) (hts (.static arraycopyName) (List.mem_of_getElem? (i := 7) rfl)) (hts (.initialized "java/lang/System") (List.mem_of_getElem? (i := 8) rfl)) hK hP hD hS 0 rfl hlt hn9 (Nat.le_of_ble_eq_true rfl) (Nat.le_of_ble_eq_true rfl) dX2_take_117 (fun H locs hP hD hS => ?_)
      refine lv_iload hx hb dX2_take_120 (lv_at hl 1 rfl) ?_
      exact W.zret hx hb hr (by first | rfl | decide) (fun t9 ht9 _ => ⟨⟨_, (((o 1), .inl (cF, n, .inr (.inr (.inl ce)))) :: ((o 11), .inr (2, [.ref (o 12), .ref (o 13), .int (nI ((a + 1) % 16)), .int (nI ((S.length - 1) + 1))])) :: ((o 12), .inl (cI, 16, .inl (upd f1 ((((a + 1) % 16) + (S.length - 1)) % 16) (nI T)))) :: ((o 13), .inl (cQ, 16, .inr (.inr (.inr (.inr (fun i => if i < 16 then some (o (14 + i)) else none)))))) :: (rowsL cF o n (va_up M ((((a + 1) % 16) + (S.length - 1)) % 16) (va_cpy ce (M ((((a + 1) % 16) + (S.length - 1)) % 16)) 0 0 n)))), rfl, ⟨by rw [if_pos ⟨hpl, h16⟩], _, rfl, _, _, _, Nat.mod_lt _ (by decide), by unfold snapT; rw [hpl, if_pos h16]; exact snap_upd (j := S.length - 1) (snap_tail hok) (by omega) (by rw [List.length_append, hht]; show S.length - 1 + 1 ≤ 16; omega) (fun i x9 hi => by
              by_cases q : i < S.tail.length
              · rw [List.getElem?_append_left q] at hi; exact Or.inr ⟨by omega, hi⟩
              · rw [List.getElem?_append_right (by omega)] at hi
                have hl9 : i - S.tail.length < 1 := (List.getElem?_eq_some_iff.mp hi).1
                rw [show i - S.tail.length = 0 by omega] at hi
                exact Or.inl ⟨by omega, (Option.some.inj hi).symm⟩), by unfold snapT; rw [hpl, if_pos h16, List.length_append, hht]; rfl⟩, by show va_P D vwCl _ t9.heap; rw [ht9]; exact hP⟩, hS.F ht9⟩) hS.2.2 dX2_take_122

end X2b
