/-! the law's start; the claim -/
section NEWL
variable {p : Program} {l : Launch} {e : Env} {R : Room} {s : State} {m : MethodId} {args : Array Value} {below : List Frame} {meth : Method} {c : Code} {H : Heap} {locs : List Loc} {cells slots : Nat} {Q : State → Prop}
variable {cc : ByteArray} {pc : Nat} {ls : Array Slot} {rest : List Value} {D : va_G} {cl : List vw_C} {A : Nat → Prop} {cJ cD : ClassId} {ws : va_W} {H0 : Heap} {N : Nat}
theorem lz_newl (hexec : p.tables.exec = Jvm.exec) (hb : c.code = cc) (harr : (Cond.arrayClass .long).before args s = true) (hK : va_K D cl (tysJ cJ cD) s) (hP : va_P D cl ws H) (hD : va_D A ws) (hS : va_S A H0 H locs) (hA : ∀ q, H0.size ≤ q → A q) (hN : N ≤ 2 ^ 20) (hcells : cells + 1 ≤ R.cells) (hslots : slots + N ≤ R.slots) (hdg : decode cc pc = .ok (.newarray .long, 2))
    (kk : ∀ (q : Nat) (H1 : Heap), va_P D cl (ws ++ [(q, .inl (cJ, N, .inr (.inl (fun _ => 0))))]) H1 → va_D A (ws ++ [(q, .inl (cJ, N, .inr (.inl (fun _ => 0))))]) → va_S A H0 H1 locs → W p l e R s m args below meth c H1 locs (cells + 1) (slots + N) Q (F0 m (pc + 2) ls (.ref q :: rest))) : W p l e R s m args below meth c H locs cells slots Q (F0 m pc ls (.int (nI N) :: rest)) := by
  refine va_newa (atype := .long) (ty := .long) (a0 := (N, .inr (.inl (fun _ => 0)))) hexec hb harr rfl hK hP hD hS hA (fun _ => rfl) (nI_pos (by omega)) (nI_clamp (by omega)) (by show N * 8 ≤ _; omega) hcells hslots hdg (fun q cB H1 hK1 hP1 hD1 hS1 => ?_)
  have e1 := va_nm_long (lz_lastK hK1)
  have e2 := va_nm_long (hK.2 0 _ rfl).2
  have e3 : cB = cJ := Option.some.inj (e1.symm.trans e2)
  subst e3
  exact kk q H1 hP1 hD1 hS1
theorem lz_newd (hexec : p.tables.exec = Jvm.exec) (hb : c.code = cc) (harr : (Cond.arrayClass .double).before args s = true) (hK : va_K D cl (tysJ cJ cD) s) (hP : va_P D cl ws H) (hD : va_D A ws) (hS : va_S A H0 H locs) (hA : ∀ q, H0.size ≤ q → A q) (hN : N ≤ 2 ^ 20) (hcells : cells + 1 ≤ R.cells) (hslots : slots + N ≤ R.slots) (hdg : decode cc pc = .ok (.newarray .double, 2))
    (kk : ∀ (q : Nat) (H1 : Heap), va_P D cl (ws ++ [(q, .inl (cD, N, .inr (.inr (.inr (.inl (fun _ => 0))))))]) H1 → va_D A (ws ++ [(q, .inl (cD, N, .inr (.inr (.inr (.inl (fun _ => 0))))))]) → va_S A H0 H1 locs → W p l e R s m args below meth c H1 locs (cells + 1) (slots + N) Q (F0 m (pc + 2) ls (.ref q :: rest))) : W p l e R s m args below meth c H locs cells slots Q (F0 m pc ls (.int (nI N) :: rest)) := by
  refine va_newa (atype := .double) (ty := .double) (a0 := (N, .inr (.inr (.inr (.inl (fun _ => 0)))))) hexec hb harr rfl hK hP hD hS hA (fun _ => rfl) (nI_pos (by omega)) (nI_clamp (by omega)) (by show N * 8 ≤ _; omega) hcells hslots hdg (fun q cB H1 hK1 hP1 hD1 hS1 => ?_)
  have e1 := va_nm_double (lz_lastK hK1)
  have e2 := va_nm_double (hK.2 1 _ rfl).2
  have e3 : cB = cD := Option.some.inj (e1.symm.trans e2)
  subst e3
  exact kk q H1 hP1 hD1 hS1
end NEWL
theorem lwX_blind {b L : Nat} {xs : Nat → Int32} {av : List Value} : FrameBlind (va_Pc av (fun U => va_X b L xs U U.heap)) := by
  intro a U g mk q
  obtain ⟨q0, q1⟩ := q
  exact ⟨q0, va_X.moved (u := U) (U := U.calling g mk a) (Vm.Alike.refl U.vm) q1⟩
set_option maxRecDepth 100000 in
set_option maxHeartbeats 4000000 in
theorem c_L_cell {l : Launch} {b L : Nat} {xs : Nat → Int32} (hL : L ≤ 3073) : Met l yL_cell wsL_cell (rmk 0 0 0) (va_Pc [.ref b, .int (nI 0)] (fun U => va_X b L xs U U.heap)) (vp_Si (fun r => r = if 0 < L then xs 0 else 0)) 0 0 (fun _ => False) := by
  refine Met.ofW (cc := cL_cell) (maxL := 2) (ret := some .int) (by decide) rfl ?_
  intro p e s m args below meth c s₁ B hml hv
  obtain ⟨rfl, hX⟩ := hv
  have hx := B.exec
  have hb := B.bytes
  have hr := B.returns
  have hlk := B.notSynchronized
  have hbl : b < s.heap.size := by
    obtain ⟨scr, h1, -⟩ := id hX
    exact (Array.getElem?_eq_some_iff.mp h1).1
  rw [lg_entry_eq]
  have hl := lv_entry [Value.ref b, .int (nI 0)] (n := 2) (Nat.le_of_ble_eq_true rfl)
  generalize (lg_sl [Value.ref b, .int (nI 0)] ++ List.replicate (2 - (lg_sl [Value.ref b, .int (nI 0)]).length) Slot.unset).toArray = ls at hl ⊢
  have hl : lv_has ls 2 [(0, .ref b), (1, .int (nI 0))] := hl
  refine lv_iload_n hx hb dL_cell_0 rfl (lv_at hl 1 rfl) ?_
  refine lv_aload_n hx hb dL_cell_1 rfl (lv_at hl 0 rfl) ?_
  refine va_slen (A := fun _ => False) hx hb hX hbl (fun q => q) va_S.rf dL_cell_2 ?_
  refine lv_icmp_ge (tgt := 12) hx hb dL_cell_3 (by decide) (fun c_1 => ?_) (fun c_1 => ?_)
  · have h1 : ¬ 0 < L := by have := (nI_le_iff (by omega) (by omega)).mp c_1; omega
    refine lv_iconst (v := nI 0) hx hb dL_cell_12 (by decide) ?_
    exact W.iret hx hb hr (fun t9 ht9 _ => ⟨_, rfl, by rw [if_neg h1]; rfl, ht9⟩) (fun _ h => nomatch h) dL_cell_13
  · have h1 : 0 < L := by have := mt (nI_le_iff (a := L) (b := 0) (by omega) (by omega)).mpr c_1; omega
    refine lv_aload_n hx hb dL_cell_6 rfl (lv_at hl 0 rfl) ?_
    refine lv_iload_n hx hb dL_cell_7 rfl (lv_at hl 1 rfl) ?_
    refine lz_sld (A := fun _ => False) hx hb hX hbl (fun q => q) va_S.rf (k := 0) h1 (by omega) dL_cell_8 ?_
    refine lv_goto (tgt := 13) hx hb dL_cell_9 (by decide) ?_
    exact W.iret hx hb hr (fun t9 ht9 _ => ⟨_, rfl, by rw [if_pos h1], ht9⟩) (fun _ h => nomatch h) dL_cell_13

set_option maxRecDepth 100000 in
set_option maxHeartbeats 4000000 in
theorem whole_start {p : Program} {e : Env} {s : State} {m : MethodId} {below : List Frame} {meth : Method} {c : Code} (l : Launch) (hl0 : l.stackTraces = false) {b L : Nat} {xs : Nat → Int32} (hL : L ≤ 3073) (C0 : lw_At p s m meth c b L xs) : W p l e room_1 s m #[Value.ref b] below meth c s.heap [] 0 0 (lw_Z below #[Value.ref b] s) (entryFrame m ([Value.ref b] : List Value).toArray 10) := by
  obtain ⟨hx, hb, hr, hml, hown0, hts0, hX, hbl, hlk, hgv⟩ := id C0
  obtain ⟨D, cI, cF, cQ, cJ, cD, aT, ham, hKJ⟩ := law_am hl0 C0
  have hown : s.vm.findClass RL = some m.cls := hown0
  have hts : ∀ w ∈ wsL_law, w.before #[Value.ref b] s = true := fun w hw => hts0 w (wsL_law_in w hw)
  have hA : ∀ q : Nat, s.heap.size ≤ q → lwA s q := fun _ h => h
  have hbA : ¬ lwA s b := Nat.not_le.mpr hbl
  have hC : cx p l m c s #[Value.ref b] (lwA s) D cI cF cQ aT cL_law 10 wsL_law RL := ⟨⟨hx, hb, hml, hown, hts⟩, hA, Nat.not_le.mpr ham.lt, ham⟩
  have hK := ham.1
  have h0 : lwC p l m c s b L xs D cI cF cQ cJ cD aT := ⟨hC, hKJ, hX, hbl, hL⟩
  have hS : va_S (lwA s) s.heap s.heap [] := va_S.rf
  have hP : va_P D vwCl [] s.heap := lz_nilP
  have hD : va_D (lwA s) [] := lz_nilD
  have hl := lv_entry ([.ref b]) (n := 10) (Nat.le_of_ble_eq_true rfl)
  rw [lg_entry_eq]
  generalize (lg_sl ([.ref b]) ++ List.replicate (10 - (lg_sl ([.ref b])).length) Slot.unset).toArray = ls at hl ⊢
  have hl : lv_has ls 10 [(0, .ref b)] := hl
  have hiX3 := inlX3
  have hiX4 := inlX4
  refine va_new (D := D) (ci := 3) (fs := [.null, .null, .null, .null, .int 0, .int 0, .int 0]) (C := RX3) (T := TX3) (N := 7) hx hb hts hiX3 tyX3 tyX3_ok hown (hts (.classLink RL 8 RX3) (List.mem_of_getElem? (i := 0) rfl)) (hts (.instantiable RX3 7) (List.mem_of_getElem? (i := 1) rfl)) (hts (.initialized RX3) (List.mem_of_getElem? (i := 2) rfl)) hK hP hD hS hA rfl (fun j hj => by rcases (show j = 0 ∨ j = 1 ∨ j = 2 ∨ j = 3 ∨ j = 4 ∨ j = 5 ∨ j = 6 by omega) with rfl | rfl | rfl | rfl | rfl | rfl | rfl <;> rfl) (Nat.le_of_ble_eq_true rfl) (Nat.le_of_ble_eq_true rfl) dL_law_0 (fun q_1 H hP hD hS => ?_)
  have hP : va_P D vwCl ([(q_1, .inr (3, [.null, .null, .null, .null, .int 0, .int 0, .int 0]))]) H := hP
  have hD : va_D (lwA s) ([(q_1, .inr (3, [.null, .null, .null, .null, .int 0, .int 0, .int 0]))]) := hD
  refine lv_dup hx hb dL_law_3 rfl ?_
  refine lv_aload_n hx hb dL_law_4 rfl (lv_at hl 0 rfl) ?_
  refine lv_iconst (v := nI 0) hx hb dL_law_5 (by decide) ?_
  refine vp_callSi (va_runS (As := [.ref b, .int (nI 0)]) (rest := [.ref q_1, .ref q_1]) hC.1 (c_L_cell (l := l) (xs := xs) hL) (va_cwS 2 hts gL_law_L_cell rfl rfl rfl (by decide +kernel) ⟨Nat.le_of_ble_eq_true rfl, Nat.le_of_ble_eq_true rfl⟩) ⟨lwX_blind, fun U hU hW => ⟨rfl, by show va_X b L xs U U.heap; rw [hU]; exact va_X.moved hW.alike (hX.kept (hS.2.1 b hbl hbA))⟩⟩ rfl rfl hl.1 rfl (lz_w8 (Nat.le_of_ble_eq_true rfl)) dL_law_6 ⟨Nat.le_of_ble_eq_true rfl, Nat.le_of_ble_eq_true rfl⟩).run (fun r9 hr9 => ?_)
  subst hr9
  have hpe : List.Perm (α := Nat × va_E) ([] ++ [(q_1, .inr (3, [.null, .null, .null, .null, .int 0, .int 0, .int 0]))]) ([(q_1, .inr (3, [.null, .null, .null, .null, .int 0, .int 0, .int 0]))] ++ []) := List.perm_append_comm
  have hPc : va_P D vwCl [(q_1, .inr (3, [.null, .null, .null, .null, .int 0, .int 0, .int 0]))] H := lz_cutP hpe hP
  have hDc : va_D (lwA s) [(q_1, .inr (3, [.null, .null, .null, .null, .int 0, .int 0, .int 0]))] := lz_cutD hpe hD
  refine lz_cNv (lz_runI (As := [.int (if 0 < L then xs 0 else 0)]) (rest := [.ref q_1]) hC hS hl c_X3_init (cwI 1 hts gL_law_X3_init rfl rfl rfl (hts (.initialized RX3) (List.mem_of_getElem? (i := 2) rfl)) (hts (.methodLink RL 72 yX3_init) (List.mem_of_getElem? (i := 13) rfl)) (hts (.instanceMethod yX3_init) (List.mem_of_getElem? (i := 14) rfl)) rfl (by decide +kernel) ⟨Nat.le_of_ble_eq_true rfl, Nat.le_of_ble_eq_true rfl⟩) hPc hDc rfl rfl (Nat.le_of_ble_eq_true rfl) dL_law_9 ⟨Nat.le_of_ble_eq_true rfl, Nat.le_of_ble_eq_true rfl⟩) hP hD hS hA hpe (fun wX3 H locs hpo hP hD hS => ?_)
  obtain ⟨o, ho, hwC⟩ := hpo
  rw [List.append_nil] at hP hD
  have hP : va_P D vwCl (wX3) H := hP
  have hD : va_D (lwA s) (wX3) := hD
  refine lv_astore_n (lv' := [(1, .ref q_1), (0, .ref b)]) hx hb dL_law_12 rfl hl (by decide) rfl (fun ls hl => ?_)
  refine va_new (D := D) (ci := 4) (fs := [.int 0, .int 0, .null, .int 0, .int 0, .int 0, .int 0, .null, .null, .null, .int 0, .null, .null, .null, .null, .int 0, .null, .null]) (C := RX4) (T := TX4) (N := 18) hx hb hts hiX4 tyX4 tyX4_ok hown (hts (.classLink RL 75 RX4) (List.mem_of_getElem? (i := 3) rfl)) (hts (.instantiable RX4 18) (List.mem_of_getElem? (i := 4) rfl)) (hts (.initialized RX4) (List.mem_of_getElem? (i := 5) rfl)) hK hP hD hS hA rfl (fun j hj => by rcases (show j = 0 ∨ j = 1 ∨ j = 2 ∨ j = 3 ∨ j = 4 ∨ j = 5 ∨ j = 6 ∨ j = 7 ∨ j = 8 ∨ j = 9 ∨ j = 10 ∨ j = 11 ∨ j = 12 ∨ j = 13 ∨ j = 14 ∨ j = 15 ∨ j = 16 ∨ j = 17 by omega) with rfl | rfl | rfl | rfl | rfl | rfl | rfl | rfl | rfl | rfl | rfl | rfl | rfl | rfl | rfl | rfl | rfl | rfl <;> rfl) (Nat.le_of_ble_eq_true rfl) (Nat.le_of_ble_eq_true rfl) dL_law_13 (fun q_2 H hP hD hS => ?_)
  have hP : va_P D vwCl ((wX3 ++ [(q_2, .inr (4, [.int 0, .int 0, .null, .int 0, .int 0, .int 0, .int 0, .null, .null, .null, .int 0, .null, .null, .null, .null, .int 0, .null, .null]))])) H := hP
  have hD : va_D (lwA s) ((wX3 ++ [(q_2, .inr (4, [.int 0, .int 0, .null, .int 0, .int 0, .int 0, .int 0, .null, .null, .null, .int 0, .null, .null, .null, .null, .int 0, .null, .null]))])) := hD
  refine lv_dup hx hb dL_law_16 rfl ?_
  refine lv_aload_n hx hb dL_law_17 rfl (lv_at hl 1 rfl) ?_
  refine lv_iconst (v := nI 0) hx hb dL_law_18 (by decide) ?_
  refine vp_callSi (va_runS (As := [.ref b, .int (nI 0)]) (rest := [.ref q_2, .ref q_2]) hC.1 (c_L_cell (l := l) (xs := xs) hL) (va_cwS 2 hts gL_law_L_cell rfl rfl rfl (by decide +kernel) ⟨Nat.le_of_ble_eq_true rfl, Nat.le_of_ble_eq_true rfl⟩) ⟨lwX_blind, fun U hU hW => ⟨rfl, by show va_X b L xs U U.heap; rw [hU]; exact va_X.moved hW.alike (hX.kept (hS.2.1 b hbl hbA))⟩⟩ rfl rfl hl.1 rfl (lz_w8 (Nat.le_of_ble_eq_true rfl)) dL_law_19 ⟨Nat.le_of_ble_eq_true rfl, Nat.le_of_ble_eq_true rfl⟩).run (fun r9 hr9 => ?_)
  subst hr9
  have hpe : List.Perm (α := Nat × va_E) (wX3 ++ [(q_2, .inr (4, [.int 0, .int 0, .null, .int 0, .int 0, .int 0, .int 0, .null, .null, .null, .int 0, .null, .null, .null, .null, .int 0, .null, .null]))]) ([(q_2, .inr (4, [.int 0, .int 0, .null, .int 0, .int 0, .int 0, .int 0, .null, .null, .null, .int 0, .null, .null, .null, .null, .int 0, .null, .null]))] ++ wX3) := List.perm_append_comm
  have hPc : va_P D vwCl [(q_2, .inr (4, [.int 0, .int 0, .null, .int 0, .int 0, .int 0, .int 0, .null, .null, .null, .int 0, .null, .null, .null, .null, .int 0, .null, .null]))] H := lz_cutP hpe hP
  have hDc : va_D (lwA s) [(q_2, .inr (4, [.int 0, .int 0, .null, .int 0, .int 0, .int 0, .int 0, .null, .null, .null, .int 0, .null, .null, .null, .null, .int 0, .null, .null]))] := lz_cutD hpe hD
  refine lz_cNv (lz_runI (As := [.int (if 0 < L then xs 0 else 0)]) (rest := [.ref q_2]) hC hS hl c_X4_init (cwI 1 hts gL_law_X4_init rfl rfl rfl (hts (.initialized RX4) (List.mem_of_getElem? (i := 5) rfl)) (hts (.methodLink RL 77 yX4_init) (List.mem_of_getElem? (i := 54) rfl)) (hts (.instanceMethod yX4_init) (List.mem_of_getElem? (i := 55) rfl)) rfl (by decide +kernel) ⟨Nat.le_of_ble_eq_true rfl, Nat.le_of_ble_eq_true rfl⟩) hPc hDc rfl rfl (Nat.le_of_ble_eq_true rfl) dL_law_22 ⟨Nat.le_of_ble_eq_true rfl, Nat.le_of_ble_eq_true rfl⟩) hP hD hS hA hpe (fun wX4 H locs hpo hP hD hS => ?_)
  obtain ⟨u, hu, hwM⟩ := hpo
  replace hP := lz_permP (List.perm_append_comm (α := Nat × va_E) (l₁ := wX4) (l₂ := wX3)) hP
  replace hD := lz_permD (List.perm_append_comm (α := Nat × va_E) (l₁ := wX4) (l₂ := wX3)) hD
  have hP : va_P D vwCl ((wX3 ++ wX4)) H := hP
  have hD : va_D (lwA s) ((wX3 ++ wX4)) := hD
  refine lv_astore_n (lv' := [(2, .ref q_2), (1, .ref q_1), (0, .ref b)]) hx hb dL_law_25 rfl hl (by decide) rfl (fun ls hl => ?_)
  refine lv_iconst (v := nI 1) hx hb dL_law_26 (by decide) ?_
  refine lz_newl (N := 1) hx hb (hts (.arrayClass .long) (List.mem_of_getElem? (i := 6) rfl)) hKJ hP hD hS hA (by omega) (Nat.le_of_ble_eq_true rfl) (Nat.le_of_ble_eq_true rfl) dL_law_27 (fun aJ H hP hD hS => ?_)
  refine lv_astore_n (lv' := [(3, .ref aJ), (2, .ref q_2), (1, .ref q_1), (0, .ref b)]) hx hb dL_law_29 rfl hl (by decide) rfl (fun ls hl => ?_)
  refine lv_iconst (v := nI 1) hx hb dL_law_30 (by decide) ?_
  refine lz_newd (N := 1) hx hb (hts (.arrayClass .double) (List.mem_of_getElem? (i := 7) rfl)) hKJ hP hD hS hA (by omega) (Nat.le_of_ble_eq_true rfl) (Nat.le_of_ble_eq_true rfl) dL_law_31 (fun aD H hP hD hS => ?_)
  refine lv_astore (lv' := [(4, .ref aD), (3, .ref aJ), (2, .ref q_2), (1, .ref q_1), (0, .ref b)]) hx hb dL_law_33 hl (by decide) rfl (fun ls hl => ?_)
  refine lv_iconst (v := nI 1) hx hb dL_law_35 (by decide) ?_
  refine lv_istore (lv' := [(5, .int (nI 1)), (4, .ref aD), (3, .ref aJ), (2, .ref q_2), (1, .ref q_1), (0, .ref b)]) hx hb dL_law_36 hl (by decide) rfl (fun ls hl => ?_)
  have hpf : List.Perm (α := Nat × va_E) (((wX3 ++ wX4) ++ [eJ cJ aJ (fun _ => 0)]) ++ [eD cD aD (fun _ => 0)]) (eJ cJ aJ (fun _ => 0) :: eD cD aD (fun _ => 0) :: (wX3 ++ wX4)) := by
    rw [List.append_assoc]
    exact List.perm_append_comm (l₁ := wX3 ++ wX4) (l₂ := [eJ cJ aJ (fun _ => 0), eD cD aD (fun _ => 0)])
  replace hP := lz_permP hpf hP
  replace hD := lz_permD hpf hD
  exact law_loop h0 hr hlk 512 0 (by omega) (by omega) 0 [] x00 x00 (nI 0) wX3 wX4 (fun _ => 0) (fun _ => 0) ⟨hwC, hwM, ⟨rfl, rfl, rfl, rfl, fun _ => rfl, List.Perm.refl _⟩, x00_ok _, List.Pairwise.nil, Nat.le_refl 0⟩ H locs ls hP hD hS (by rw [ho, hu]; exact lv_sub hl [0, 5, 4, 3, 2, 1] rfl)

set_option maxHeartbeats 4000000 in
theorem lw_walk (l : Launch) (hl0 : l.stackTraces = false) (b : Addr) (xs : List Int32) : MetFree l x (headSpec (Jvm.Cond.code x code maxLocals ret :: tables_1) room_1) (lw_P b xs) (fun _ _ _ _ _ => True) lw_Q := by
  refine MetFree.of_bodyS (code := code) (maxLocals := maxLocals) (ret := ret) (by decide) ?_ ?_
  · intro args s m h hn
    obtain ⟨meth, c, h1, h2, h3, h4, h5, h6, -, -⟩ := Cond.code_spec hn (atoms_spec (ws := Jvm.Cond.code x code maxLocals ret :: tables_1) h _ List.mem_cons_self)
    exact ⟨meth, c, h1, h2, h3, h4, h5, h6⟩
  · intro p e s m args below meth c s₁ B hml0 hP _
    obtain ⟨rfl, hx, hbd, hgv⟩ := hP
    obtain ⟨scr, harrAt, hlist, hof, hsmall⟩ := hx
    obtain ⟨hcb, hkn, -, -⟩ := State.arrayAt?_spec harrAt
    have hown : s.vm.findClass R_law = some m.cls := findClass_of_methodNamed B.named
    have hts0 : ∀ c ∈ (Jvm.Cond.code x code maxLocals ret :: tables_1), c.before #[Value.ref b] s = true := atoms_spec (ws := Jvm.Cond.code x code maxLocals ret :: tables_1) B.pre
    have hts : ∀ w ∈ lw_tbl, w.before #[Value.ref b] s = true := k2_hts_sels lw_privs (fun w hw => hts0 w (List.mem_cons_of_mem _ hw)) lw_privs_ok
    have hml : c.maxLocals = 10 := B.maxLocals_eq (hts0 _ List.mem_cons_self)
    have X₀ : Stand p l e room_1 s m #[Value.ref b] below meth c s₁ [] 0 0 := Stand.of_body B
    have hh0 : s₁.heap = s.heap := by rw [B.state]; rfl
    have hsz : scr.slots.size = xs.length := by rw [← Array.length_toList, hlist, List.length_map]
    have hval : ∀ j : Nat, j < xs.length → scr.slots[j]? = some (.int (xs.getD j 0)) := fun j hj => by
      rw [← Array.getElem?_toList, hlist]
      simp [hj]
    have hbl : b < s.heap.size := (Array.getElem?_eq_some_iff.mp hcb).1
    have hX : va_X b xs.length (fun j => xs.getD j 0) s s.heap := ⟨scr, hcb, hof, hkn, hsz, hval⟩
    have K : W p l e room_1 s m #[Value.ref b] below meth c s₁.heap [] 0 0 (lw_Z below #[Value.ref b] s) (entryFrame m ([Value.ref b] : List Value).toArray 10) := by
      rw [hh0]
      exact whole_start l hl0 hbd ⟨B.exec, B.bytes, B.returns, hml, hown, hts, hX, hbl, B.notSynchronized, hgv⟩
    obtain ⟨t, a1, o, b1, b2, b3⟩ := K s₁ rfl X₀
    exact ⟨t, o, a1, b1, b2, b3⟩
theorem lw_pre_spec {args : Array Value} {s : State} (h : (Jvm.Cond.and given_1 narrow_1).before args s = true) (hr : rest_1_c.before args s = true) : ∃ (b : Addr) (xs : List Int32), lw_P b xs args s := by
  have hs := flat_of_before _ h
  have hq := flat_of_before _ hr
  have hc : (Cond.count 1).before args s = true := hs _ (by decide +kernel)
  have harr : (Cond.arrayOf (.arg 0) .int).before args s = true := hs _ (by decide +kernel)
  have hle : (Cond.le (.length (.arg 0)) (.int 3073)).before args s = true := hs _ (by decide +kernel)
  have hlen : (Cond.isInt (.length (.arg 0))).before args s = true := hq _ (by decide +kernel)
  have hall : (Cond.all (.arg 0) (.isInt (.elem (.arg 0) (.index 0)))).before args s = true := hq _ (by decide +kernel)
  obtain ⟨b, xs, hb, hx⟩ := State.ints_of_pre rfl harr hlen hall
  have hsm : xs.length < 2 ^ 31 := hx.choose_spec.2.2.2
  have hev : (Term.length (.arg 0)).eval args s none [] s = some (.int xs.length.toInt32) := hx.length_eval hb
  have hv := Cond.le_ints hev (show (Term.int 3073).eval args s none [] s = some (.int 3073) from rfl)
  have hd : xs.length.toInt32 ≤ 3073 := by
    simpa [Cond.before, Cond.holds, hv] using hle
  have hN : xs.length ≤ 3073 := (Int32.ofNat_le_ofNat hsm (by decide)).mp (show Int32.ofNat xs.length ≤ Int32.ofNat 3073 from hd)
  exact ⟨b, xs, Cond.one_arg hc (show args[0]? = some (.ref b) from hb), hx, hN, h⟩
theorem lw_comes (l : Launch) (hl0 : l.stackTraces = false) : Comes l x (Jvm.Cond.code x code maxLocals ret :: tables_1) room_1 (fun tb e args s => Calls_1 tb e args s ∧ rest_1 tb e args s ∧ Pre_1 tb e args s)
    (fun _ _ args s o t => lw_Q args s o t) := by
  intro p e ha hc hk s m args below hf hfit hheap happ hpre
  obtain ⟨b, xs, hP⟩ := lw_pre_spec hpre.2.2 hpre.2.1
  obtain ⟨k, o, h1, h2, h3, hQ⟩ := lw_walk l hl0 b xs p e ha hc hk s m args below hf ((Spec.applies_iff_loose hf).mp happ).1 hP trivial
  exact ⟨k, o, h1, h2, h3, hQ⟩
theorem lw_frame {s t : State} {o : Outcome} {args : Array Value} (h : Framed s o t [] 601024 7293000) :
    Framed s o t (fieldLocs frame_1_writes args s ++ arrayLocs frame_1_arrays args s ++ staticLocs frame_1_statics s) 601024 7293000 := h
theorem lw_limb (L : Cond) (hL : ∀ (args : Array Value) (s t : State), L.after args s (.returned (some (.int 1))) t = true) :
    ArmFor flags0 classFile x code maxLocals ret World_1 tables_1 room_1 Calls_1 rest_1 Pre_1
      (fun tb e a s o t => postC L tb e a s o t ∧ Framed s o t (fieldLocs frame_1_writes a s ++ arrayLocs frame_1_arrays a s ++ staticLocs frame_1_statics s) 601024 7293000) := by
  intro l hfl _ _ p e ha hc hk s m args below hf hfit hheap happ hpre
  obtain ⟨k, o, h1, h2, h3, rfl, hF⟩ := lw_comes l (by unfold Launch.stackTraces; rw [hfl]; decide) p e ha hc hk s m args below hf hfit hheap happ hpre
  exact ⟨k, _, h1, h2, h3, hL args s _, lw_frame hF⟩
theorem i_vc : Claimed_1_1 ∧ Claimed_1_2 := ⟨lw_limb limb_1_1 (fun args s t => by simp [limb_1_1, Cond.after, Cond.holds, Cond.value]), lw_limb limb_1_2 (fun args s t => Cond.after_iff.mpr (by
  first | (rw [show limb_1_2 = Cond.eq .result (.int 1) from rfl, Cond.eq_ints (x := 1) (y := 1) rfl rfl]; simp; done) | (simp [limb_1_2, Cond.value, Term.eval]; done)))⟩

