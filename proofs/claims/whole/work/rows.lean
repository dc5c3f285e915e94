section
-- ===== PART A: goes FIRST, ahead of the names: the tables' words, and 'selects' of the private methods out of them =====
/-- a private method of a class that the tables say can be made, by its rows of tables_1 -/
def lw_okq (q : MethodName × Nat) : Prop := (q.1.cls ≠ "java/lang/invoke/MethodHandle" ∧ q.1.cls ≠ "java/lang/invoke/VarHandle") ∧ Cond.instantiable q.1.cls q.2 ∈ tables_1 ∧ Cond.privateMethod q.1 ∈ tables_1 ∧ Cond.instanceMethod q.1 ∈ tables_1
theorem lw_p0 : lw_okq (⟨"StateKeeper", "keepPresent", "()V"⟩, 7) := ⟨⟨by decide +kernel, by decide +kernel⟩, List.mem_of_getElem? (i := 14) (by decide +kernel), List.mem_of_getElem? (i := 118) (by decide +kernel), List.mem_of_getElem? (i := 119) (by decide +kernel)⟩
theorem lw_p1 : lw_okq (⟨"StateKeeper$Snapshots", "take", "(I[F)Z"⟩, 4) := ⟨⟨by decide +kernel, by decide +kernel⟩, List.mem_of_getElem? (i := 70) (by decide +kernel), List.mem_of_getElem? (i := 122) (by decide +kernel), List.mem_of_getElem? (i := 123) (by decide +kernel)⟩
theorem lw_p2 : lw_okq (⟨"StateKeeper$Snapshots", "stepOf", "(I)I"⟩, 4) := ⟨⟨by decide +kernel, by decide +kernel⟩, List.mem_of_getElem? (i := 70) (by decide +kernel), List.mem_of_getElem? (i := 126) (by decide +kernel), List.mem_of_getElem? (i := 127) (by decide +kernel)⟩
theorem lw_p3 : lw_okq (⟨"StateKeeper$Snapshots", "slot", "(I)I"⟩, 4) := ⟨⟨by decide +kernel, by decide +kernel⟩, List.mem_of_getElem? (i := 70) (by decide +kernel), List.mem_of_getElem? (i := 130) (by decide +kernel), List.mem_of_getElem? (i := 131) (by decide +kernel)⟩
theorem lw_p4 : lw_okq (⟨"StateKeeper$InputRecord", "dropBelow", "(I)V"⟩, 5) := ⟨⟨by decide +kernel, by decide +kernel⟩, List.mem_of_getElem? (i := 44) (by decide +kernel), List.mem_of_getElem? (i := 138) (by decide +kernel), List.mem_of_getElem? (i := 139) (by decide +kernel)⟩
theorem lw_p5 : lw_okq (⟨"StateKeeper$InputRecord", "sizeBelow", "(J)I"⟩, 5) := ⟨⟨by decide +kernel, by decide +kernel⟩, List.mem_of_getElem? (i := 44) (by decide +kernel), List.mem_of_getElem? (i := 142) (by decide +kernel), List.mem_of_getElem? (i := 143) (by decide +kernel)⟩
theorem lw_p6 : lw_okq (⟨"StateKeeper$InputRecord", "moveRest", "(II)V"⟩, 5) := ⟨⟨by decide +kernel, by decide +kernel⟩, List.mem_of_getElem? (i := 44) (by decide +kernel), List.mem_of_getElem? (i := 146) (by decide +kernel), List.mem_of_getElem? (i := 147) (by decide +kernel)⟩
theorem lw_p7 : lw_okq (⟨"StateKeeper", "needCell", "(I)V"⟩, 7) := ⟨⟨by decide +kernel, by decide +kernel⟩, List.mem_of_getElem? (i := 14) (by decide +kernel), List.mem_of_getElem? (i := 168) (by decide +kernel), List.mem_of_getElem? (i := 169) (by decide +kernel)⟩
theorem lw_p8 : lw_okq (⟨"java/lang/Throwable", "fillInStackTrace", "(I)Ljava/lang/Throwable;"⟩, 6) := ⟨⟨by decide +kernel, by decide +kernel⟩, List.mem_of_getElem? (i := 210) (by decide +kernel), List.mem_of_getElem? (i := 208) (by decide +kernel), List.mem_of_getElem? (i := 209) (by decide +kernel)⟩
theorem lw_p9 : lw_okq (⟨"StateKeeper$Drifts", "append", "(IIF)V"⟩, 4) := ⟨⟨by decide +kernel, by decide +kernel⟩, List.mem_of_getElem? (i := 22) (by decide +kernel), List.mem_of_getElem? (i := 275) (by decide +kernel), List.mem_of_getElem? (i := 276) (by decide +kernel)⟩
theorem lw_p10 : lw_okq (⟨"StateKeeper", "needRoom", "(I)V"⟩, 7) := ⟨⟨by decide +kernel, by decide +kernel⟩, List.mem_of_getElem? (i := 14) (by decide +kernel), List.mem_of_getElem? (i := 301) (by decide +kernel), List.mem_of_getElem? (i := 302) (by decide +kernel)⟩
theorem lw_p11 : lw_okq (⟨"StateKeeper$InputRecord", "append", "(IIIF)V"⟩, 5) := ⟨⟨by decide +kernel, by decide +kernel⟩, List.mem_of_getElem? (i := 44) (by decide +kernel), List.mem_of_getElem? (i := 306) (by decide +kernel), List.mem_of_getElem? (i := 307) (by decide +kernel)⟩
theorem lw_p12 : lw_okq (⟨"StateKeeper$InputRecord", "sizeOf", "(I)I"⟩, 5) := ⟨⟨by decide +kernel, by decide +kernel⟩, List.mem_of_getElem? (i := 44) (by decide +kernel), List.mem_of_getElem? (i := 310) (by decide +kernel), List.mem_of_getElem? (i := 311) (by decide +kernel)⟩
theorem lw_p13 : lw_okq (⟨"StateKeeper", "needLastCell", "(III)V"⟩, 7) := ⟨⟨by decide +kernel, by decide +kernel⟩, List.mem_of_getElem? (i := 14) (by decide +kernel), List.mem_of_getElem? (i := 322) (by decide +kernel), List.mem_of_getElem? (i := 323) (by decide +kernel)⟩
theorem lw_p14 : lw_okq (⟨"StateKeeper", "doSteps", "(I)V"⟩, 7) := ⟨⟨by decide +kernel, by decide +kernel⟩, List.mem_of_getElem? (i := 14) (by decide +kernel), List.mem_of_getElem? (i := 335) (by decide +kernel), List.mem_of_getElem? (i := 336) (by decide +kernel)⟩
theorem lw_p15 : lw_okq (⟨"StateKeeper$InputRecord", "putIn", "(I[F)V"⟩, 5) := ⟨⟨by decide +kernel, by decide +kernel⟩, List.mem_of_getElem? (i := 44) (by decide +kernel), List.mem_of_getElem? (i := 339) (by decide +kernel), List.mem_of_getElem? (i := 340) (by decide +kernel)⟩
def lw_privs_1 : List (MethodName × Nat) := [(⟨"StateKeeper", "keepPresent", "()V"⟩, 7), (⟨"StateKeeper$Snapshots", "take", "(I[F)Z"⟩, 4), (⟨"StateKeeper$Snapshots", "stepOf", "(I)I"⟩, 4), (⟨"StateKeeper$Snapshots", "slot", "(I)I"⟩, 4), (⟨"StateKeeper$InputRecord", "dropBelow", "(I)V"⟩, 5), (⟨"StateKeeper$InputRecord", "sizeBelow", "(J)I"⟩, 5), (⟨"StateKeeper$InputRecord", "moveRest", "(II)V"⟩, 5), (⟨"StateKeeper", "needCell", "(I)V"⟩, 7), (⟨"java/lang/Throwable", "fillInStackTrace", "(I)Ljava/lang/Throwable;"⟩, 6), (⟨"StateKeeper$Drifts", "append", "(IIF)V"⟩, 4), (⟨"StateKeeper", "needRoom", "(I)V"⟩, 7), (⟨"StateKeeper$InputRecord", "append", "(IIIF)V"⟩, 5), (⟨"StateKeeper$InputRecord", "sizeOf", "(I)I"⟩, 5), (⟨"StateKeeper", "needLastCell", "(III)V"⟩, 7), (⟨"StateKeeper", "doSteps", "(I)V"⟩, 7), (⟨"StateKeeper$InputRecord", "putIn", "(I[F)V"⟩, 5)]
theorem lw_r1 : ∀ q ∈ lw_privs_1, lw_okq q := List.forall_mem_cons.mpr ⟨lw_p0, List.forall_mem_cons.mpr ⟨lw_p1, List.forall_mem_cons.mpr ⟨lw_p2, List.forall_mem_cons.mpr ⟨lw_p3, List.forall_mem_cons.mpr ⟨lw_p4, List.forall_mem_cons.mpr ⟨lw_p5, List.forall_mem_cons.mpr ⟨lw_p6, List.forall_mem_cons.mpr ⟨lw_p7, List.forall_mem_cons.mpr ⟨lw_p8, List.forall_mem_cons.mpr ⟨lw_p9, List.forall_mem_cons.mpr ⟨lw_p10, List.forall_mem_cons.mpr ⟨lw_p11, List.forall_mem_cons.mpr ⟨lw_p12, List.forall_mem_cons.mpr ⟨lw_p13, List.forall_mem_cons.mpr ⟨lw_p14, List.forall_mem_cons.mpr ⟨lw_p15, fun _ h => absurd h List.not_mem_nil⟩⟩⟩⟩⟩⟩⟩⟩⟩⟩⟩⟩⟩⟩⟩⟩
theorem lw_p16 : lw_okq (⟨"StateKeeper$Drifts", "flow", "([F)V"⟩, 4) := ⟨⟨by decide +kernel, by decide +kernel⟩, List.mem_of_getElem? (i := 22) (by decide +kernel), List.mem_of_getElem? (i := 349) (by decide +kernel), List.mem_of_getElem? (i := 350) (by decide +kernel)⟩
theorem lw_p17 : lw_okq (⟨"StateKeeper", "neededSnapshot", "(I)I"⟩, 7) := ⟨⟨by decide +kernel, by decide +kernel⟩, List.mem_of_getElem? (i := 14) (by decide +kernel), List.mem_of_getElem? (i := 361) (by decide +kernel), List.mem_of_getElem? (i := 362) (by decide +kernel)⟩
theorem lw_p18 : lw_okq (⟨"StateKeeper$Snapshots", "find", "(I)I"⟩, 4) := ⟨⟨by decide +kernel, by decide +kernel⟩, List.mem_of_getElem? (i := 70) (by decide +kernel), List.mem_of_getElem? (i := 365) (by decide +kernel), List.mem_of_getElem? (i := 366) (by decide +kernel)⟩
theorem lw_p19 : lw_okq (⟨"StateKeeper$Snapshots", "highestNotAbove", "(I)I"⟩, 4) := ⟨⟨by decide +kernel, by decide +kernel⟩, List.mem_of_getElem? (i := 70) (by decide +kernel), List.mem_of_getElem? (i := 369) (by decide +kernel), List.mem_of_getElem? (i := 370) (by decide +kernel)⟩
theorem lw_p20 : lw_okq (⟨"StateKeeper", "goBackTo", "(I)I"⟩, 7) := ⟨⟨by decide +kernel, by decide +kernel⟩, List.mem_of_getElem? (i := 14) (by decide +kernel), List.mem_of_getElem? (i := 374) (by decide +kernel), List.mem_of_getElem? (i := 375) (by decide +kernel)⟩
theorem lw_p21 : lw_okq (⟨"StateKeeper$Snapshots", "row", "(I)[F"⟩, 4) := ⟨⟨by decide +kernel, by decide +kernel⟩, List.mem_of_getElem? (i := 70) (by decide +kernel), List.mem_of_getElem? (i := 378) (by decide +kernel), List.mem_of_getElem? (i := 379) (by decide +kernel)⟩
theorem lw_p22 : lw_okq (⟨"StateKeeper$Snapshots", "dropBehind", "(I)I"⟩, 4) := ⟨⟨by decide +kernel, by decide +kernel⟩, List.mem_of_getElem? (i := 70) (by decide +kernel), List.mem_of_getElem? (i := 383) (by decide +kernel), List.mem_of_getElem? (i := 384) (by decide +kernel)⟩
theorem lw_p23 : lw_okq (⟨"StateKeeper$InputRecord", "dropFrom", "(I)I"⟩, 5) := ⟨⟨by decide +kernel, by decide +kernel⟩, List.mem_of_getElem? (i := 44) (by decide +kernel), List.mem_of_getElem? (i := 395) (by decide +kernel), List.mem_of_getElem? (i := 396) (by decide +kernel)⟩
theorem lw_p24 : lw_okq (⟨"StateKeeper", "stepAgainFrom", "(I)I"⟩, 7) := ⟨⟨by decide +kernel, by decide +kernel⟩, List.mem_of_getElem? (i := 14) (by decide +kernel), List.mem_of_getElem? (i := 409) (by decide +kernel), List.mem_of_getElem? (i := 410) (by decide +kernel)⟩
theorem lw_p25 : lw_okq (⟨"StateKeeper", "neededPlace", "(II)I"⟩, 7) := ⟨⟨by decide +kernel, by decide +kernel⟩, List.mem_of_getElem? (i := 14) (by decide +kernel), List.mem_of_getElem? (i := 449) (by decide +kernel), List.mem_of_getElem? (i := 450) (by decide +kernel)⟩
theorem lw_p26 : lw_okq (⟨"StateKeeper", "cellsNotZero", "()I"⟩, 7) := ⟨⟨by decide +kernel, by decide +kernel⟩, List.mem_of_getElem? (i := 14) (by decide +kernel), List.mem_of_getElem? (i := 470) (by decide +kernel), List.mem_of_getElem? (i := 471) (by decide +kernel)⟩
theorem lw_p27 : lw_okq (⟨"StateKeeperModel", "keepNow", "()V"⟩, 18) := ⟨⟨by decide +kernel, by decide +kernel⟩, List.mem_of_getElem? (i := 475) (by decide +kernel), List.mem_of_getElem? (i := 481) (by decide +kernel), List.mem_of_getElem? (i := 482) (by decide +kernel)⟩
theorem lw_p28 : lw_okq (⟨"StateKeeperModel", "placeOf", "(I)I"⟩, 18) := ⟨⟨by decide +kernel, by decide +kernel⟩, List.mem_of_getElem? (i := 475) (by decide +kernel), List.mem_of_getElem? (i := 485) (by decide +kernel), List.mem_of_getElem? (i := 486) (by decide +kernel)⟩
theorem lw_p29 : lw_okq (⟨"StateKeeperModel", "moveDown", "()V"⟩, 18) := ⟨⟨by decide +kernel, by decide +kernel⟩, List.mem_of_getElem? (i := 475) (by decide +kernel), List.mem_of_getElem? (i := 489) (by decide +kernel), List.mem_of_getElem? (i := 490) (by decide +kernel)⟩
theorem lw_p30 : lw_okq (⟨"StateKeeperModel", "drop", "(II)I"⟩, 18) := ⟨⟨by decide +kernel, by decide +kernel⟩, List.mem_of_getElem? (i := 475) (by decide +kernel), List.mem_of_getElem? (i := 493) (by decide +kernel), List.mem_of_getElem? (i := 494) (by decide +kernel)⟩
theorem lw_p31 : lw_okq (⟨"StateKeeperModel", "known", "(I)Z"⟩, 18) := ⟨⟨by decide +kernel, by decide +kernel⟩, List.mem_of_getElem? (i := 475) (by decide +kernel), List.mem_of_getElem? (i := 560) (by decide +kernel), List.mem_of_getElem? (i := 561) (by decide +kernel)⟩
def lw_privs_2 : List (MethodName × Nat) := [(⟨"StateKeeper$Drifts", "flow", "([F)V"⟩, 4), (⟨"StateKeeper", "neededSnapshot", "(I)I"⟩, 7), (⟨"StateKeeper$Snapshots", "find", "(I)I"⟩, 4), (⟨"StateKeeper$Snapshots", "highestNotAbove", "(I)I"⟩, 4), (⟨"StateKeeper", "goBackTo", "(I)I"⟩, 7), (⟨"StateKeeper$Snapshots", "row", "(I)[F"⟩, 4), (⟨"StateKeeper$Snapshots", "dropBehind", "(I)I"⟩, 4), (⟨"StateKeeper$InputRecord", "dropFrom", "(I)I"⟩, 5), (⟨"StateKeeper", "stepAgainFrom", "(I)I"⟩, 7), (⟨"StateKeeper", "neededPlace", "(II)I"⟩, 7), (⟨"StateKeeper", "cellsNotZero", "()I"⟩, 7), (⟨"StateKeeperModel", "keepNow", "()V"⟩, 18), (⟨"StateKeeperModel", "placeOf", "(I)I"⟩, 18), (⟨"StateKeeperModel", "moveDown", "()V"⟩, 18), (⟨"StateKeeperModel", "drop", "(II)I"⟩, 18), (⟨"StateKeeperModel", "known", "(I)Z"⟩, 18)]
theorem lw_r2 : ∀ q ∈ lw_privs_2, lw_okq q := List.forall_mem_cons.mpr ⟨lw_p16, List.forall_mem_cons.mpr ⟨lw_p17, List.forall_mem_cons.mpr ⟨lw_p18, List.forall_mem_cons.mpr ⟨lw_p19, List.forall_mem_cons.mpr ⟨lw_p20, List.forall_mem_cons.mpr ⟨lw_p21, List.forall_mem_cons.mpr ⟨lw_p22, List.forall_mem_cons.mpr ⟨lw_p23, List.forall_mem_cons.mpr ⟨lw_p24, List.forall_mem_cons.mpr ⟨lw_p25, List.forall_mem_cons.mpr ⟨lw_p26, List.forall_mem_cons.mpr ⟨lw_p27, List.forall_mem_cons.mpr ⟨lw_p28, List.forall_mem_cons.mpr ⟨lw_p29, List.forall_mem_cons.mpr ⟨lw_p30, List.forall_mem_cons.mpr ⟨lw_p31, fun _ h => absurd h List.not_mem_nil⟩⟩⟩⟩⟩⟩⟩⟩⟩⟩⟩⟩⟩⟩⟩⟩
theorem lw_p32 : lw_okq (⟨"StateKeeperModel", "goes", "(ZZZ)Z"⟩, 18) := ⟨⟨by decide +kernel, by decide +kernel⟩, List.mem_of_getElem? (i := 475) (by decide +kernel), List.mem_of_getElem? (i := 566) (by decide +kernel), List.mem_of_getElem? (i := 567) (by decide +kernel)⟩
theorem lw_p33 : lw_okq (⟨"StateKeeperModel", "put", "(IIIF)V"⟩, 18) := ⟨⟨by decide +kernel, by decide +kernel⟩, List.mem_of_getElem? (i := 475) (by decide +kernel), List.mem_of_getElem? (i := 583) (by decide +kernel), List.mem_of_getElem? (i := 584) (by decide +kernel)⟩
theorem lw_p34 : lw_okq (⟨"StateKeeperModel", "inputsOf", "(I)I"⟩, 18) := ⟨⟨by decide +kernel, by decide +kernel⟩, List.mem_of_getElem? (i := 475) (by decide +kernel), List.mem_of_getElem? (i := 587) (by decide +kernel), List.mem_of_getElem? (i := 588) (by decide +kernel)⟩
theorem lw_p35 : lw_okq (⟨"StateKeeperModel", "once", "()V"⟩, 18) := ⟨⟨by decide +kernel, by decide +kernel⟩, List.mem_of_getElem? (i := 475) (by decide +kernel), List.mem_of_getElem? (i := 599) (by decide +kernel), List.mem_of_getElem? (i := 600) (by decide +kernel)⟩
theorem lw_p36 : lw_okq (⟨"StateKeeperModel", "act", "(I)V"⟩, 18) := ⟨⟨by decide +kernel, by decide +kernel⟩, List.mem_of_getElem? (i := 475) (by decide +kernel), List.mem_of_getElem? (i := 603) (by decide +kernel), List.mem_of_getElem? (i := 604) (by decide +kernel)⟩
theorem lw_p37 : lw_okq (⟨"StateKeeperModel", "goBack", "(I)I"⟩, 18) := ⟨⟨by decide +kernel, by decide +kernel⟩, List.mem_of_getElem? (i := 475) (by decide +kernel), List.mem_of_getElem? (i := 618) (by decide +kernel), List.mem_of_getElem? (i := 619) (by decide +kernel)⟩
theorem lw_p38 : lw_okq (⟨"StateKeeperModel", "highest", "(I)I"⟩, 18) := ⟨⟨by decide +kernel, by decide +kernel⟩, List.mem_of_getElem? (i := 475) (by decide +kernel), List.mem_of_getElem? (i := 631) (by decide +kernel), List.mem_of_getElem? (i := 632) (by decide +kernel)⟩
theorem lw_p39 : lw_okq (⟨"StateKeeperModel", "find", "(II)I"⟩, 18) := ⟨⟨by decide +kernel, by decide +kernel⟩, List.mem_of_getElem? (i := 475) (by decide +kernel), List.mem_of_getElem? (i := 655) (by decide +kernel), List.mem_of_getElem? (i := 656) (by decide +kernel)⟩
def lw_privs_3 : List (MethodName × Nat) := [(⟨"StateKeeperModel", "goes", "(ZZZ)Z"⟩, 18), (⟨"StateKeeperModel", "put", "(IIIF)V"⟩, 18), (⟨"StateKeeperModel", "inputsOf", "(I)I"⟩, 18), (⟨"StateKeeperModel", "once", "()V"⟩, 18), (⟨"StateKeeperModel", "act", "(I)V"⟩, 18), (⟨"StateKeeperModel", "goBack", "(I)I"⟩, 18), (⟨"StateKeeperModel", "highest", "(I)I"⟩, 18), (⟨"StateKeeperModel", "find", "(II)I"⟩, 18)]
theorem lw_r3 : ∀ q ∈ lw_privs_3, lw_okq q := List.forall_mem_cons.mpr ⟨lw_p32, List.forall_mem_cons.mpr ⟨lw_p33, List.forall_mem_cons.mpr ⟨lw_p34, List.forall_mem_cons.mpr ⟨lw_p35, List.forall_mem_cons.mpr ⟨lw_p36, List.forall_mem_cons.mpr ⟨lw_p37, List.forall_mem_cons.mpr ⟨lw_p38, List.forall_mem_cons.mpr ⟨lw_p39, fun _ h => absurd h List.not_mem_nil⟩⟩⟩⟩⟩⟩⟩⟩
def lw_privs : List (MethodName × Nat) := lw_privs_1 ++ (lw_privs_2 ++ (lw_privs_3))
def lw_tbl : List Cond := k2_sels lw_privs ++ tables_1
theorem lw_privs_ok : ∀ q ∈ lw_privs, lw_okq q := by
  show ∀ q ∈ lw_privs_1 ++ (lw_privs_2 ++ (lw_privs_3)), lw_okq q
  exact List.forall_mem_append.mpr ⟨lw_r1, List.forall_mem_append.mpr ⟨lw_r2, lw_r3⟩⟩
end
section
/-- the tables have the array class over arrays of t (the printed names speak of it, no kit row defines it) -/
def va_AOA (t : FieldType) (U : State) : Prop := (Cond.arrayOver (.array t)).before #[] U = true
theorem va_AOA.use {t : FieldType} {A : Array Value} {U : State} (h : va_AOA t U) : (Cond.arrayOver (.array t)).before A U = true := h
theorem va_AOA.of {t : FieldType} {A : Array Value} {U : State} (h : (Cond.arrayOver (.array t)).before A U = true) : va_AOA t U := h
theorem va_AOA.moved {t : FieldType} {u U : State} (hvm : u.vm.Alike U.vm) (h : va_AOA t u) : va_AOA t U := by
  have h1 : (Cond.arrayOver (.array t)).before #[] (u.setVm U.vm) = true := by
    rw [Cond.arrayOver_setVmC hvm (.array t)]
    exact h
  exact h1
/-! ===== BEGIN words of one list among another's, by their places ===== -/
theorem goodIn_r {big : List Cond} (ws : List Cond) (ps : List Nat) (hp : ws = ps.filterMap (fun i => big[i]?)) (h : ws.all goodWord = true) : GoodIn big ws := by
  intro w hw
  have h1 := List.all_eq_true.mp h w hw
  rw [hp] at hw
  obtain ⟨i, -, hi⟩ := List.mem_filterMap.mp hw
  have hm : w ∈ big := by first | exact List.mem_of_getElem? hi | exact List.getElem?_mem hi
  exact ⟨hm, good_of_word h1⟩
theorem goodIn_app {big a b : List Cond} (ha : GoodIn big a) (hb : GoodIn big b) : GoodIn big (a ++ b) := fun w h => (List.mem_append.mp h).elim (ha w) (hb w)
theorem goodIn_ca {big a b : List Cond} {c : Cond} (ha : GoodIn big (c :: a)) (hb : GoodIn big b) : GoodIn big (c :: (a ++ b)) := fun w h => (List.mem_cons.mp h).elim (fun e => ha w (List.mem_cons.mpr (Or.inl e))) (fun h => (List.mem_append.mp h).elim (fun h => ha w (List.mem_cons.mpr (Or.inr h))) (hb w))
theorem goodIn_sub {big ws : List Cond} (hm : ∀ w ∈ ws, w ∈ big) (h : ws.all goodWord = true) : GoodIn big ws := fun w hw => ⟨hm w hw, good_of_word (List.all_eq_true.mp h w hw)⟩
/-! ===== END ===== -/

/-! ===== BEGIN new T[n][m]: the outer array a place, the inner ones among the pooled ===== -/
/-- f, but v at every address of l -/
def vr_up {α : Type} (f : Nat → α) (l : List Nat) (v : α) : Nat → α := fun a => if a ∈ l then v else f a
theorem vr_up_in {α : Type} {f : Nat → α} {l : List Nat} {v : α} {a : Nat} (h : a ∈ l) : vr_up f l v a = v := if_pos h
theorem vr_up_ne {α : Type} {f : Nat → α} {l : List Nat} {v : α} {a : Nat} (h : a ∉ l) : vr_up f l v a = f a := if_neg h
theorem vr_rows {L l : List Nat} {f : Nat → va_E} {e : va_E} (h : ∀ a, a ∈ l → a ∉ L) : va_pl L f ++ l.map (fun a => (a, e)) = va_pl (L ++ l) (vr_up f l e) := by
  unfold va_pl
  rw [List.map_append]
  congr 1
  · apply List.map_congr_left
    intro a ha
    rw [vr_up_ne (fun q => h a q ha)]
  · apply List.map_congr_left
    intro a ha
    rw [vr_up_in ha]
theorem vr_lay {X rows : va_W} {x : Nat × va_E} {pl : va_W} {D : va_G} {cl : List vw_C} {H : Heap} (hP : va_P D cl (((X ++ pl) ++ [x]) ++ rows) H) : va_P D cl ((X ++ [x]) ++ (pl ++ rows)) H := by
  rw [List.append_assoc (X ++ pl)] at hP
  have h := va_P.swap hP
  rw [← List.append_assoc X] at h
  have h2 := va_P.swap h
  rw [List.append_assoc (X ++ [x])] at h2
  exact h2
theorem vr_layD {X rows : va_W} {x : Nat × va_E} {pl : va_W} {A : Nat → Prop} (hD : va_D A (((X ++ pl) ++ [x]) ++ rows)) : va_D A ((X ++ [x]) ++ (pl ++ rows)) := by
  rw [List.append_assoc (X ++ pl)] at hD
  have h := va_D.swap hD
  rw [← List.append_assoc X] at h
  have h2 := va_D.swap h
  rw [List.append_assoc (X ++ [x])] at h2
  exact h2
theorem vr_outer (c : ClassId) (N h0 : Nat) : ∀ i : Nat, Jvm.Free.Multi.outerC c N h0 i = arrV c N (fun j => va_rf (if j < i then some (h0 + 1 + j) else none))
  | 0 => by
    show ({ cls := c, slots := Array.replicate N .null, vm := .none } : Cell) = _
    rw [arrV_new]
    refine congrArg (arrV c N) (funext fun j => ?_)
    simp [va_rf]
  | i + 1 => by
    show (Jvm.Free.Multi.outerC c N h0 i).setSlot i (.ref (h0 + 1 + i)) = _
    rw [vr_outer c N h0 i, arrV_store]
    refine congrArg (arrV c N) (funext fun j => ?_)
    by_cases e : j = i
    · subst e
      simp [updV, va_rf]
    · by_cases h : j < i
      · simp [updV, e, h, Nat.lt_succ_of_lt h]
      · simp [updV, e, h, show ¬ j < i + 1 by omega]
section VGM
variable {p : Program} {l : Launch} {e : Env} {R : Room} {s : State} {m : MethodId} {args : Array Value} {below : List Frame} {meth : Method} {c : Code} {H : Heap} {locs : List Loc} {cells slots : Nat} {Q : State → Prop}
variable {cc : ByteArray} {pc : Nat} {ls : Array Slot} {rest : List Value} {D : va_G} {cl : List vw_C} {A : Nat → Prop} {a : Nat} {tys : List (ClassId × FieldType)} {ws : va_W} {H0 : Heap}
theorem va_mna {X : va_W} {L : List Nat} {f : Nat → va_E} {cc : ByteArray} (hexec : p.tables.exec = Jvm.exec) (hb : c.code = cc) {own : String} {index : Nat} {ty : FieldType} {cy : ClassId} (hown : s.vm.findClass own = some m.cls) (hclink : (Cond.classLink own index ("[" ++ (FieldType.array ty).toString)).before args s = true) (hover : va_AOA ty s) (harr : (Cond.arrayClass ty).before args s = true) (hcy : s.vm.findClass (FieldType.array ty).toString = some cy)
    (hK : va_K D cl tys s) (hP : va_P D cl (X ++ va_pl L f) H) (hD : va_D A (X ++ va_pl L f)) (hS : va_S A H0 H locs) (hA : ∀ q, H0.size ≤ q → A q) {n k : Int32} {N' K' : Nat} {z : vp_A} (hn : ¬ n < 0) (hk : ¬ k < 0) (hN : n.toNatClampNeg = N') (hM : k.toNatClampNeg = K')
    (hb1 : N' * 4 ≤ 536870912) (hb2 : K' * componentBytes ty ≤ 536870912) (hb3 : K' ≤ 536870912) (hdf : fits ty (defaultValue ty) = true) (hdd : (defaultValue ty).isDefault = true) (hcells : cells + (1 + N') ≤ R.cells) (hslots : slots + (N' + N' * K') ≤ R.slots) (hz : ∀ c : ClassId, Jvm.Free.Multi.innerC c K' (defaultValue ty) = vp_cell c z) (hdg : decode cc pc = .ok (.multianewarray index 2, 4))
    (kk : ∀ (q : Nat) (r : Nat → Nat) (cA : ClassId) (H1 : Heap), (∀ i j : Nat, i < N' → j < N' → r i = r j → i = j) → (∀ i : Nat, i < N' → r i ∉ L) → va_K D cl (tys ++ [(cA, .array ty)]) s →
      va_P D cl ((X ++ [(q, .inl (cA, N', .inr (.inr (.inr (.inr (fun i => if i < N' then some (r i) else none))))))]) ++ va_pl (L ++ (List.range N').map r) (vr_up f ((List.range N').map r) (.inl (cy, z)))) H1 → va_D A ((X ++ [(q, .inl (cA, N', .inr (.inr (.inr (.inr (fun i => if i < N' then some (r i) else none))))))]) ++ va_pl (L ++ (List.range N').map r) (vr_up f ((List.range N').map r) (.inl (cy, z)))) → va_S A H0 H1 locs →
      W p l e R s m args below meth c H1 locs (cells + 1 + N') (slots + N' + N' * K') Q (F0 m (pc + 4) ls (.ref q :: rest))) : W p l e R s m args below meth c H locs cells slots Q (F0 m pc ls (.int k :: .int n :: rest)) := by
  subst hN
  subst hM
  intro T hT Xs
  obtain ⟨vm₁, cA, comp, -, fA, fC, hO, -, X', step⟩ := Xs.multianewarray2F hexec hown hclink (va_AOA.use hover) harr (g := F0 m pc ls (.int k :: .int n :: rest)) rfl (by rw [hb]; exact hdg) rfl hn hk hb1 hb2 hb3 hdf hdd hcells hslots
  have ec : some cy = some comp := hcy.symm.trans fC
  cases ec
  generalize hF : Jvm.Free.Multi.fill (T.setVm vm₁) cA cy n.toNatClampNeg k.toNatClampNeg (defaultValue ty) n.toNatClampNeg = F at X' step
  have hTh : (T.setVm vm₁).heap = H := hT
  obtain ⟨f1, f2, -, -⟩ := Jvm.Free.Multi.fill_facts (T.setVm vm₁) cA cy n.toNatClampNeg k.toNatClampNeg (defaultValue ty) n.toNatClampNeg
  rw [hF, hTh] at f1 f2
  have hold : ∀ x : Nat, x < H.size → F.heap[x]? = H[x]? := fun x hx => by
    have := Jvm.Free.Multi.fill_old (T.setVm vm₁) cA cy n.toNatClampNeg k.toNatClampNeg (defaultValue ty) (a := x) (by rw [hTh]; exact hx) n.toNatClampNeg
    rw [hF, hTh] at this
    exact this
  have hrow : ∀ j : Nat, j < n.toNatClampNeg → F.heap[H.size + 1 + j]? = some (vp_cell cy z) := fun j hj => by
    have := Jvm.Free.Multi.fill_inner (T.setVm vm₁) cA cy n.toNatClampNeg k.toNatClampNeg (defaultValue ty) n.toNatClampNeg j hj
    rw [hF, hTh, hz] at this
    exact this
  have hout : Jvm.Free.Multi.outerC cA n.toNatClampNeg H.size n.toNatClampNeg = vp_cell cA (n.toNatClampNeg, .inr (.inr (.inr (.inr (fun i => if i < n.toNatClampNeg then some (H.size + 1 + i) else none))))) := by
    rw [vp_cell_q]
    exact vr_outer cA n.toNatClampNeg H.size n.toNatClampNeg
  rw [hout] at f2
  have hlt : ∀ a, a ∈ L → a < H.size := fun a ha => by
    obtain ⟨k9, hk9⟩ := va_pl_get (X := X) (f := f) ha
    exact (hP k9 _ hk9).lt
  have hnl : ∀ i : Nat, i < n.toNatClampNeg → H.size + 1 + i ∉ L := fun i _ h => by
    have := hlt _ h
    omega
  have hnm : ∀ a, a ∈ (List.range n.toNatClampNeg).map (fun i => H.size + 1 + i) → a ∉ L := fun a ha h => by
    obtain ⟨i, -, rfl⟩ := List.mem_map.mp ha
    have := hlt _ h
    omega
  have hP0 : va_P D cl (X ++ va_pl L f) F.heap := hP.kept (fun k9 x hx => hold x.1 ((hP k9 x hx).lt))
  have hP1 : va_P D cl ((X ++ va_pl L f) ++ [(H.size, .inl (cA, n.toNatClampNeg, .inr (.inr (.inr (.inr (fun i => if i < n.toNatClampNeg then some (H.size + 1 + i) else none))))))]) F.heap := hP0.app (fun k9 x hx => by
    have h0 : k9 < 1 := (List.getElem?_eq_some_iff.mp hx).1
    rw [show k9 = 0 by omega] at hx
    cases hx
    exact f2)
  have hP2 : va_P D cl (((X ++ va_pl L f) ++ [(H.size, .inl (cA, n.toNatClampNeg, .inr (.inr (.inr (.inr (fun i => if i < n.toNatClampNeg then some (H.size + 1 + i) else none))))))]) ++ ((List.range n.toNatClampNeg).map (fun i => H.size + 1 + i)).map (fun a => (a, .inl (cy, z)))) F.heap := hP1.app (fun k9 x hx => by
    obtain ⟨a, ha, rfl⟩ := List.mem_map.mp (List.mem_of_getElem? hx)
    obtain ⟨i, hi, rfl⟩ := List.mem_map.mp ha
    exact hrow i (List.mem_range.mp hi))
  have hD2 : va_D A (((X ++ va_pl L f) ++ [(H.size, .inl (cA, n.toNatClampNeg, .inr (.inr (.inr (.inr (fun i => if i < n.toNatClampNeg then some (H.size + 1 + i) else none))))))]) ++ ((List.range n.toNatClampNeg).map (fun i => H.size + 1 + i)).map (fun a => (a, .inl (cy, z)))) := by
    have hD1 := hD.push (e := .inl (cA, n.toNatClampNeg, .inr (.inr (.inr (.inr (fun i => if i < n.toNatClampNeg then some (H.size + 1 + i) else none)))))) hP rfl (hA _ hS.1)
    generalize hW1 : (X ++ va_pl L f) ++ [(H.size, .inl (cA, n.toNatClampNeg, .inr (.inr (.inr (.inr (fun i => if i < n.toNatClampNeg then some (H.size + 1 + i) else none))))))] = W1 at hD1 hP1 ⊢
    have hle : ∀ (k9 : Nat) (x : Nat × va_E), W1[k9]? = some x → x.1 ≤ H.size := fun k9 x hx => by
      rw [← hW1] at hx
      by_cases hl : k9 < (X ++ va_pl L f).length
      · rw [List.getElem?_append_left hl] at hx
        exact Nat.le_of_lt ((hP k9 x hx).lt)
      · rw [List.getElem?_append_right (by omega)] at hx
        have h0 : k9 - (X ++ va_pl L f).length < 1 := (List.getElem?_eq_some_iff.mp hx).1
        rw [show k9 - (X ++ va_pl L f).length = 0 by omega] at hx
        cases hx
        exact Nat.le_refl _
    have hr : ∀ (k9 : Nat) (x : Nat × va_E), (((List.range n.toNatClampNeg).map (fun i => H.size + 1 + i)).map (fun a => ((a, .inl (cy, z)) : Nat × va_E)))[k9]? = some x → x.1 = H.size + 1 + k9 := fun k9 x hx => by
      rw [List.getElem?_map, List.getElem?_map] at hx
      by_cases h9 : k9 < n.toNatClampNeg
      · rw [List.getElem?_range h9] at hx
        cases hx
        rfl
      · have hn0 : (List.range n.toNatClampNeg)[k9]? = none := List.getElem?_eq_none (by rw [List.length_range]; omega)
        rw [hn0] at hx
        cases hx
    refine ⟨fun i j x y hi hj hxy => ?_, fun k9 x hx => ?_⟩
    · by_cases h1 : i < W1.length <;> by_cases h2 : j < W1.length
      · rw [List.getElem?_append_left h1] at hi
        rw [List.getElem?_append_left h2] at hj
        exact hD1.1 i j x y hi hj hxy
      · rw [List.getElem?_append_left h1] at hi
        rw [List.getElem?_append_right (by omega)] at hj
        have := hle _ _ hi
        have := hr _ _ hj
        omega
      · rw [List.getElem?_append_right (by omega)] at hi
        rw [List.getElem?_append_left h2] at hj
        have := hle _ _ hj
        have := hr _ _ hi
        omega
      · rw [List.getElem?_append_right (by omega)] at hi hj
        have := hr _ _ hi
        have := hr _ _ hj
        omega
    · by_cases h1 : k9 < W1.length
      · rw [List.getElem?_append_left h1] at hx
        exact hD1.2 k9 x hx
      · rw [List.getElem?_append_right (by omega)] at hx
        have := hr _ _ hx
        exact hA _ (by have := hS.1; omega)
  have hAr : ArrOfT s cA (.array ty) := fun N9 z9 => by
    obtain ⟨-, k9, hk9, cm9, hkk9⟩ := (hO 0 0 0).1
    exact ⟨(fun q hq => by cases hq), k9, hk9, cm9, hkk9⟩
  have hK2 : va_K D cl (tys ++ [(cA, .array ty)]) s := ⟨hK.1, fun k9 x hx => by
    by_cases hl : k9 < tys.length
    · rw [List.getElem?_append_left hl] at hx
      exact hK.2 k9 x hx
    · rw [List.getElem?_append_right (by omega)] at hx
      have h0 : k9 - tys.length < 1 := (List.getElem?_eq_some_iff.mp hx).1
      rw [show k9 - tys.length = 0 by omega] at hx
      cases hx
      exact ⟨hAr, fA⟩⟩
  obtain ⟨t, a1, b1⟩ := kk H.size (fun i => H.size + 1 + i) cA F.heap (fun i j _ _ h => by have h9 : H.size + 1 + i = H.size + 1 + j := h; omega) hnl hK2 (by rw [← vr_rows hnm]; exact vr_lay hP2) (by rw [← vr_rows hnm]; exact vr_layD hD2) ⟨by rw [f1]; have := hS.1; omega, fun x h1 h2 => (hold x (Nat.lt_of_lt_of_le h1 hS.1)).trans (hS.2.1 x h1 h2), hS.2.2⟩ F rfl X'
  refine ⟨t, step t ?_, b1⟩
  have e : T.heap.size = H.size := by rw [hT]
  rw [e]
  exact a1
end VGM
/-! ===== END ===== -/

/-! ===== BEGIN exceptions that leave a method, and their catching by the caller (launches without stack traces) ===== -/
section VXA
/-! The laws vx_back, vx_callV, vx_callS, vx_callSW, vx_throw0, vx_throwS follow proofs of the library, with one case more: JvmDerived/Free/Laws.lean (Back.of_free), Shelf42/LK1.lean (callV, callS), Shelf/KitTraced.lean (throwNew0V, throwNewS). -/
/-- where a method has thrown q: the class by its name, the cell, what was written, the world -/
def vx_T (XC : String → State → State → Prop) (st : State) (q : Addr) (t : State) (mc ms : Nat) (free : Addr → Prop) : Prop :=
  ∃ (E : String) (ce : Cell) (L : List Loc), XC E st t ∧ t.heap[q]? = some ce ∧ ce.vm = .none ∧ st.vm.findClass E = some ce.cls ∧ st.WarmedH t.vm ∧ st.sameButNew ({ t with vm := st.vm } : State) L mc ms ∧ ∀ z ∈ L, free z.base
def vx_Q (Qc : Array Value → State → Outcome → State → Prop) (XC : String → State → State → Prop) (mc ms : Nat) (free : Addr → Prop) : Array Value → State → Outcome → State → Prop := fun a st o t =>
  (Qc a st o t ∧ ∃ L, FrameEnd st o t L mc ms ∧ ∀ q ∈ L, free q.base) ∨ ∃ q, o = .threw q ∧ vx_T XC st q t mc ms free
/-- a callee that returns or throws -/
def vx_Met (l : Launch) (y : MethodName) (ws : List Cond) (rm : Room) (Pc : Array Value → State → Prop) (Qc : Array Value → State → Outcome → State → Prop) (XC : String → State → State → Prop) (mc ms : Nat) (free : Addr → Prop) : Prop :=
  MetFree l y (headSpec ws rm) Pc (fun _ _ _ _ _ => True) (vx_Q Qc XC mc ms free)
def vx_Post (XC : String → State → State → Prop) (mc ms : Nat) (free : Addr → Prop) : Pt → Array Value → Addr → Pt → Prop := fun A a q B =>
  ∃ (g : JFrame) (mk : MethodId) (t : State) (L : List Loc) (E : String) (ce : Cell), B.U.heap = t.heap ∧ B.U.vm = t.vm ∧ XC E (A.U.calling g mk a) t ∧ t.heap[q]? = some ce ∧ ce.vm = .none ∧ A.U.vm.findClass E = some ce.cls ∧ B.locs = A.locs ++ L ∧ (∀ z ∈ L, free z.base) ∧ B.cells = A.cells + mc ∧ B.slots = A.slots + ms
def vx_Back (l : Launch) (R : Room) (p : Program) (e : Env) (below : List Frame) (s : State) (sargs : Array Value) (y : MethodName) (len W9 : Nat)
    (Pre : Pt → Array Value → Prop) (Post : Pt → Array Value → Option Value → Pt → Prop) (PostX : Pt → Array Value → Addr → Pt → Prop) : Prop :=
  ∀ (m : MethodId) (meth : Method) (c : Code) (A : Pt) (g : JFrame) (ig : Instr) (mk : MethodId) (a : Array Value),
    Stand p l e R s m sargs below meth c A.U A.locs A.cells A.slots → g.method = m → g.locals.size = c.maxLocals → decode c.code g.pc = .ok (ig, len) →
    2 * g.monitorRoom + (g.stack.map fun v => v.category).sum ≤ W9 → A.U.methodNamed? y = some mk → Pre A a →
    (∃ (v : Option Value) (B : Pt), Stand p l e R s m sargs below meth c B.U B.locs B.cells B.slots ∧ Post A a v B ∧
      Steps p.tables e below (doInvoke e (A.U.setTop g) [] mk a).1 (B.U.setTop { g with pc := g.pc + len, stack := v.toList ++ g.stack })) ∨
    (∃ (q : Addr) (B : Pt), Stand p l e R s m sargs below meth c B.U B.locs B.cells B.slots ∧ PostX A a q B ∧
      Steps p.tables e below (doInvoke e (A.U.setTop g) [] mk a).1 ((B.U.setTop g).pushFrame (.throwing q)))
section Payer
variable {l : Launch} {R : Room} {p : Program} {e : Env} {below : List Frame} {s : State} {sargs : Array Value} {y : MethodName} {len W9 : Nat}
theorem vx_back {ws : List Cond} {rm : Room} {Pc : Array Value → State → Prop} {Qc : Array Value → State → Outcome → State → Prop} {XC : String → State → State → Prop} {mc ms : Nat} {free : Addr → Prop} {bytes : ByteArray} {maxL : Nat} {ret : Option FieldType}
    (hM : vx_Met l y ws rm Pc Qc XC mc ms free) (hblind : FrameBlind Pc) (hrc : rm.cells = mc) (hrs : rm.slots = ms)
    (hframes : rm.frames + 1 ≤ R.frames) (hlocals : W9 + (maxL + 11) + rm.locals ≤ R.locals)
    (hws : ∀ w ∈ ws, ∀ a' U, s.WarmedH U.vm → w.before a' U = true) (hcode : Cond.code y bytes maxL ret ∈ ws) (hinit : ∀ a' U, s.WarmedH U.vm → (Cond.initialized y.cls).before a' U = true) :
    vx_Back l R p e below s sargs y len W9 (PreOf R mc ms Pc) (PostOf Qc mc ms free) (vx_Post XC mc ms free) := by
  intro m meth c A g ig mk a X hg hsize hdg hW hn hp
  have h1 : (headSpec ws rm).pre.before a A.U = true := atoms_intro fun w hw => hws w hw _ _ X.warmed
  have h2 : (Cond.code y bytes maxL ret).before a A.U = true := hws _ hcode _ _ X.warmed
  have h3 : (Cond.initialized y.cls).before a A.U = true := hinit _ _ X.warmed
  have h4 : A.cells + (headSpec ws rm).room.cells ≤ R.cells := by rw [show (headSpec ws rm).room.cells = mc from hrc]; exact hp.1
  have h5 : A.slots + (headSpec ws rm).room.slots ≤ R.slots := by rw [show (headSpec ws rm).room.slots = ms from hrs]; exact hp.2.1
  have hPc : Pc a (A.U.calling g mk a) := hblind _ _ _ _ hp.2.2
  obtain ⟨U, Ls, c0, s0⟩ := A
  dsimp only [Pt.U, Pt.locs, Pt.cells, Pt.slots] at h1 h2 h3 h4 h5 X hn hPc ⊢
  obtain ⟨methY, cY, hmY, hcY, -, hlY, -, -, -, -⟩ := Cond.code_spec hn h2
  obtain ⟨kY, hkY, -⟩ := className_of_methodNamed hn
  have hinitY : kY.init = .initialized := Cond.initialized_spec (findClass_of_methodNamed hn) hkY h3
  have h : At U g.method c below := by rw [hg]; exact X.here
  have hlocals9 : W9 + (maxL + 11) + (headSpec ws rm).room.locals ≤ R.locals := hlocals
  have happ : (headSpec ws rm).appliesLoose y e.platform (U.calling g mk a) = true :=
    Spec.appliesLoose_calling (g := g) h hdg hn hkY hinitY
      (X.room_calling (g := g) (R' := (headSpec ws rm).room) hsize hmY hcY hframes (by rw [hlY]; omega) h4 h5) h1
  obtain ⟨mid, hmid⟩ := h.above
  have hfr : (U.setTop g).frames = (.java g :: mid) ++ below := by rw [State.frames_setTop' g h.top, hmid]; rfl
  obtain ⟨o, s₂, hsteps, -, hend, hq⟩ := Steps.callFree hM p X.admits X.cas X.clock (acts := []) hfr happ hPc trivial
  have hq' : vx_Q Qc XC mc ms free a (U.calling g mk a) o s₂ := hq
  rw [State.frames_setTop' g h.top] at hend
  obtain ⟨g₀, hg0⟩ := Option.isSome_iff_exists.mp h.top
  obtain ⟨r, hr⟩ := State.topJava?_eq_some.mp hg0
  have hr' : (({ U with heap := s₂.heap, slotsUsed := s₂.slotsUsed } : State).setVm s₂.vm).frames = .java g₀ :: r := hr
  rcases hq' with ⟨hqc, L, hfe, hL⟩ | ⟨q, rfl, E, ce, L, hx, hce, hcv, hcl, hW₂, hsm, hL⟩
  · obtain ⟨⟨v, rfl⟩, hW₂, e2, q2, q3, q4, q5, q6⟩ := id hfe
    have e3 : s₂ = ({ (U.calling g mk a).setFrames s₂.frames with heap := s₂.heap, slotsUsed := s₂.slotsUsed } : State).setVm s₂.vm := by
      have : s₂ = ({ s₂ with vm := (U.calling g mk a).vm } : State).setVm s₂.vm := rfl
      rw [e2] at this
      exact this
    obtain ⟨c₂, i₂, len₂, hc₂, hd₂, hf₂⟩ := hend
    have hW' : U.WarmedH s₂.vm := hW₂
    have hcc : c₂ = c := by
      have h1 : s₂.code? g.method = U.code? g.method := by
        rw [State.code?_eq, State.code?_eq, hW'.alike.method?]
      exact Option.some.inj (hc₂.symm.trans (h1.trans h.code))
    subst hcc
    have hlen : len₂ = len := by rw [hdg] at hd₂; cases hd₂; rfl
    subst hlen
    have hs₂ : s₂ = (({ U with heap := s₂.heap, slotsUsed := s₂.slotsUsed } : State).setVm s₂.vm).setTop { g with pc := g.pc + len₂, stack := v.toList ++ g.stack } := by
      refine e3.trans ?_
      rw [hf₂, State.calling_eq h.top, State.setFrames_setFrames, State.setTop_of_frames _ hr', hr]
      rfl
    have hsame : U.sameButNew ({ U with heap := s₂.heap, slotsUsed := s₂.slotsUsed } : State) L mc ms := by
      refine ⟨?_, q2, q3, q4, q5, q6⟩
      obtain ⟨t, ht, -⟩ := State.frames_cons hr
      show ({ U with heap := s₂.heap, slotsUsed := s₂.slotsUsed } : State) = { U.setFrames U.frames with heap := s₂.heap, slotsUsed := s₂.slotsUsed }
      rw [State.setFrames_self ht]
    subst hg
    refine Or.inl ⟨v, ⟨(({ U with heap := s₂.heap, slotsUsed := s₂.slotsUsed } : State).setVm s₂.vm), Ls ++ L, c0 + mc, s0 + ms⟩,
      ⟨X.admits, X.cas, X.clock, X.frames, X.room, X.hears, X.method, X.code, (X.here.setHeapUsed s₂.heap s₂.slotsUsed).setVm hW'.alike, X.tail, State.WarmedH.trans X.warmed hW', X.limits, X.bytes, X.same.trans (hsame.setVm s.vm)⟩,
      ⟨g, mk, s₂, L, rfl, rfl, hqc, rfl, hL, rfl, rfl⟩, ?_⟩
    show Steps p.tables e below _ ((({ U with heap := s₂.heap, slotsUsed := s₂.slotsUsed } : State).setVm s₂.vm).setTop { g with pc := g.pc + len₂, stack := v.toList ++ g.stack })
    rw [← hs₂]
    exact hsteps
  · obtain ⟨e2, q2, q3, q4, q5, q6⟩ := id hsm
    have e3 : s₂ = ({ (U.calling g mk a).setFrames s₂.frames with heap := s₂.heap, slotsUsed := s₂.slotsUsed } : State).setVm s₂.vm := by
      have : s₂ = ({ s₂ with vm := (U.calling g mk a).vm } : State).setVm s₂.vm := rfl
      rw [e2] at this
      exact this
    have hf₂ : s₂.frames = .throwing q :: .java g :: U.frames.tail := hend
    have hW' : U.WarmedH s₂.vm := hW₂
    have hs₂ : s₂ = ((({ U with heap := s₂.heap, slotsUsed := s₂.slotsUsed } : State).setVm s₂.vm).setTop g).pushFrame (.throwing q) := by
      refine e3.trans ?_
      rw [hf₂, State.calling_eq h.top, State.setFrames_setFrames, State.pushFrame, State.frames_setTop _ hr', State.setTop_of_frames _ hr', State.setFrames_setFrames, hr]
      rfl
    have hsame : U.sameButNew ({ U with heap := s₂.heap, slotsUsed := s₂.slotsUsed } : State) L mc ms := by
      refine ⟨?_, q2, q3, q4, q5, q6⟩
      obtain ⟨t, ht, -⟩ := State.frames_cons hr
      show ({ U with heap := s₂.heap, slotsUsed := s₂.slotsUsed } : State) = { U.setFrames U.frames with heap := s₂.heap, slotsUsed := s₂.slotsUsed }
      rw [State.setFrames_self ht]
    subst hg
    refine Or.inr ⟨q, ⟨(({ U with heap := s₂.heap, slotsUsed := s₂.slotsUsed } : State).setVm s₂.vm), Ls ++ L, c0 + mc, s0 + ms⟩,
      ⟨X.admits, X.cas, X.clock, X.frames, X.room, X.hears, X.method, X.code, (X.here.setHeapUsed s₂.heap s₂.slotsUsed).setVm hW'.alike, X.tail, State.WarmedH.trans X.warmed hW', X.limits, X.bytes, X.same.trans (hsame.setVm s.vm)⟩,
      ⟨g, mk, s₂, L, E, ce, rfl, rfl, hx, hce, hcv, hcl, rfl, hL, rfl, rfl⟩, ?_⟩
    show Steps p.tables e below _ (((({ U with heap := s₂.heap, slotsUsed := s₂.slotsUsed } : State).setVm s₂.vm).setTop g).pushFrame (.throwing q))
    rw [← hs₂]
    exact hsteps
end Payer
section Calls
variable {p : Program} {l : Launch} {e : Env} {R : Room} {s : State} {m : MethodId} {args : Array Value} {below : List Frame} {meth : Method} {c : Code} {T : State} {locs : List Loc} {cells slots : Nat}
theorem vx_callV (X : Stand p l e R s m args below meth c T locs cells slots) (hexec : p.tables.exec = Jvm.exec) {own C : String} {index : Nat} {y : MethodName} {bytes : ByteArray} {maxL : Nat} {ret : Option FieldType}
    (hown : s.vm.findClass own = some m.cls) (hlink : (Cond.methodLink own index y).before args s = true) (hinst : (Cond.instanceMethod y).before args s = true) (hsel : (Cond.selects C y y).before args s = true)
    (hcode : (Cond.code y bytes maxL ret).before args s = true) (hy : y.cls ≠ "java/lang/invoke/MethodHandle" ∧ y.cls ≠ "java/lang/invoke/VarHandle")
    {W9 : Nat} {Pre : Pt → Array Value → Prop} {Post : Pt → Array Value → Option Value → Pt → Prop} {PostX : Pt → Array Value → Addr → Pt → Prop} (hK : vx_Back l R p e below s args y 3 W9 Pre Post PostX)
    {b : Addr} {cellB : Cell} (hcell : T.heap[b]? = some cellB) (hobj : cellB.vm.isStatics = false) (hcls : s.vm.findClass C = some cellB.cls)
    {g : JFrame} (hg : g.method = m) (hsize : g.locals.size = c.maxLocals) {argsL rest : List Value} (hlen : ∀ sig, parseMethodDescriptor y.desc = some sig → argsL.length = sig.parameters.length)
    (hstack : g.stack = argsL.reverse ++ .ref b :: rest) (hW : 2 * g.monitorRoom + (rest.map fun v => v.category).sum ≤ W9) (hdg : decode c.code g.pc = .ok (.invokevirtual index, 3))
    (hpre : ∀ vm₁, s.WarmedH vm₁ → Pre ⟨T.setVm vm₁, locs, cells, slots⟩ (Value.ref b :: argsL).toArray) :
    (∃ (v : Option Value) (vm₁ : Vm) (B : Pt), s.WarmedH vm₁ ∧ Stand p l e R s m args below meth c B.U B.locs B.cells B.slots ∧ Post ⟨T.setVm vm₁, locs, cells, slots⟩ (Value.ref b :: argsL).toArray v B ∧
      ∀ target, Steps p.tables e below (B.U.setTop { g with pc := g.pc + 3, stack := v.toList ++ rest }) target → Steps p.tables e below (T.setTop g) target) ∨
    (∃ (q : Addr) (vm₁ : Vm) (B : Pt), s.WarmedH vm₁ ∧ Stand p l e R s m args below meth c B.U B.locs B.cells B.slots ∧ PostX ⟨T.setVm vm₁, locs, cells, slots⟩ (Value.ref b :: argsL).toArray q B ∧
      Steps p.tables e below (T.setTop g) ((B.U.setTop { g with stack := rest }).pushFrame (.throwing q))) := by
  obtain ⟨mk, methM, hnamed, hmethM, hstM, habM⟩ := Cond.instanceMethod_spec hinst
  obtain ⟨methM', cM, hmethM', -, -, -, -, -, -, hsigM⟩ := Cond.code_spec hnamed hcode
  cases hmethM.symm.trans hmethM'
  obtain ⟨c2, r2, m2, q1, q2, q3, q4, kP, hkP, hkPi⟩ := Cond.selects_spec hsel
  cases hcls.symm.trans q1
  cases (State.methodFound?_of_named hnamed hy).symm.trans q2
  cases hnamed.symm.trans q3
  have hselP : selectMethod e.platform s.vm cellB.cls mk = .method mk := by rw [Launch.admits_selectMethod X.admits]; exact q4
  obtain ⟨vm₁, X₁, hstep₁⟩ := X.invokevirtual hexec hown hlink hnamed hmethM hstM hkP hkPi hy (a := b) (cell := cellB) hcell
    (fun z h => by rw [h] at hobj; cases hobj) hselP hmethM habM hkP hkPi (g := g) hg (argsL := argsL) (rest := rest) (hlen _ hsigM) hstack hdg
  rcases hK m meth c ⟨T.setVm vm₁, locs, cells, slots⟩ { g with stack := rest } (.invokevirtual index) mk (Value.ref b :: argsL).toArray X₁ hg hsize hdg hW (X₁.named hnamed) (hpre vm₁ X₁.warmed) with ⟨v, B, X', hpost, hsteps⟩ | ⟨q, B, X', hpost, hsteps⟩
  · exact Or.inl ⟨v, vm₁, B, X₁.warmed, X', hpost, fun target h => hstep₁ _ fun acts => by rw [doInvoke_state]; exact hsteps.trans h⟩
  · exact Or.inr ⟨q, vm₁, B, X₁.warmed, X', hpost, hstep₁ _ fun acts => by rw [doInvoke_state]; exact hsteps⟩
theorem vx_callS (X : Stand p l e R s m args below meth c T locs cells slots) (hexec : p.tables.exec = Jvm.exec) {own : String} {index : Nat} {y : MethodName} {bytes : ByteArray} {maxL : Nat} {ret : Option FieldType}
    (hown : s.vm.findClass own = some m.cls) (hlink : (Cond.methodLink own index y).before args s = true) (hstat : (Cond.static y).before args s = true) (hinit : (Cond.initialized y.cls).before args s = true)
    (hcode : (Cond.code y bytes maxL ret).before args s = true) (hy : y.cls ≠ "java/lang/invoke/MethodHandle" ∧ y.cls ≠ "java/lang/invoke/VarHandle")
    {W9 : Nat} {Pre : Pt → Array Value → Prop} {Post : Pt → Array Value → Option Value → Pt → Prop} {PostX : Pt → Array Value → Addr → Pt → Prop} (hK : vx_Back l R p e below s args y 3 W9 Pre Post PostX)
    {g : JFrame} (hg : g.method = m) (hsize : g.locals.size = c.maxLocals) {argsL rest : List Value} (hlen : ∀ sig, parseMethodDescriptor y.desc = some sig → argsL.length = sig.parameters.length)
    (hstack : g.stack = argsL.reverse ++ rest) (hW : 2 * g.monitorRoom + (rest.map fun v => v.category).sum ≤ W9) (hdg : decode c.code g.pc = .ok (.invokestatic index, 3))
    (hpre : ∀ vm₁, s.WarmedH vm₁ → Pre ⟨T.setVm vm₁, locs, cells, slots⟩ argsL.toArray) :
    (∃ (v : Option Value) (vm₁ : Vm) (B : Pt), s.WarmedH vm₁ ∧ Stand p l e R s m args below meth c B.U B.locs B.cells B.slots ∧ Post ⟨T.setVm vm₁, locs, cells, slots⟩ argsL.toArray v B ∧
      ∀ target, Steps p.tables e below (B.U.setTop { g with pc := g.pc + 3, stack := v.toList ++ rest }) target → Steps p.tables e below (T.setTop g) target) ∨
    (∃ (q : Addr) (vm₁ : Vm) (B : Pt), s.WarmedH vm₁ ∧ Stand p l e R s m args below meth c B.U B.locs B.cells B.slots ∧ PostX ⟨T.setVm vm₁, locs, cells, slots⟩ argsL.toArray q B ∧
      Steps p.tables e below (T.setTop g) ((B.U.setTop { g with stack := rest }).pushFrame (.throwing q))) := by
  obtain ⟨mk, hnamed⟩ := Cond.code_named hcode
  obtain ⟨methM, cM, hmethM, -, -, -, -, -, -, hsigM⟩ := Cond.code_spec hnamed hcode
  have hstatic : methM.isStatic = true := Cond.static_spec hnamed hmethM hstat
  obtain ⟨kP, hkP, -⟩ := className_of_methodNamed hnamed
  have hinitP : kP.init = .initialized := Cond.initialized_spec (findClass_of_methodNamed hnamed) hkP hinit
  obtain ⟨vm₁, X₁, hstep₁⟩ := X.invokestatic hexec hown hlink hnamed hmethM hstatic hkP hinitP hy (g := g) hg (argsL := argsL) (rest := rest) (hlen _ hsigM) hstack hdg
  rcases hK m meth c ⟨T.setVm vm₁, locs, cells, slots⟩ { g with stack := rest } (.invokestatic index) mk argsL.toArray X₁ hg hsize hdg hW (X₁.named hnamed) (hpre vm₁ X₁.warmed) with ⟨v, B, X', hpost, hsteps⟩ | ⟨q, B, X', hpost, hsteps⟩
  · exact Or.inl ⟨v, vm₁, B, X₁.warmed, X', hpost, fun target h => hstep₁ _ fun acts => by rw [doInvoke_state]; exact hsteps.trans h⟩
  · exact Or.inr ⟨q, vm₁, B, X₁.warmed, X', hpost, hstep₁ _ fun acts => by rw [doInvoke_state]; exact hsteps⟩
end Calls
theorem vx_cls {s : State} {T : State} {vm₁ : Vm} {E : String} {k : ClassId} (hW : s.WarmedH vm₁) (h : (T.setVm vm₁).vm.findClass E = some k) : s.vm.findClass E = some k := by
  have h1 : vm₁.findClass E = some k := h
  rw [hW.alike.findClass] at h1
  exact h1
/-- the method's frame g, with q thrown over it -/
def vx_W (p : Program) (l : Launch) (e : Env) (R : Room) (s : State) (m : MethodId) (args : Array Value) (below : List Frame) (meth : Method) (c : Code) (H : Heap) (locs : List Loc) (cells slots : Nat) (Q : State → Prop) (g : JFrame) (q : Addr) : Prop :=
  ∀ T : State, T.heap = H → Stand p l e R s m args below meth c T locs cells slots → ∃ t, Steps p.tables e below ((T.setTop g).pushFrame (.throwing q)) t ∧ Q t
def vx_Run (p : Program) (l : Launch) (e : Env) (R : Room) (s : State) (m : MethodId) (args : Array Value) (below : List Frame) (meth : Method) (c : Code) (H : Heap) (locs : List Loc) (cells slots mc ms : Nat) (g : JFrame) (rest : List Value) (Qa : State → Outcome → State → Prop) (XC : String → State → State → Prop) (free : Addr → Prop) : Prop :=
  ∀ T : State, T.heap = H → Stand p l e R s m args below meth c T locs cells slots →
    (∃ (v : Option Value) (st₀ t T' : State) (L : List Loc), st₀.heap = H ∧ Stand p l e R s m args below meth c T' (locs ++ L) (cells + mc) (slots + ms) ∧ (∀ q ∈ L, free q.base) ∧ T'.heap = t.heap ∧ T'.vm = t.vm ∧ Qa st₀ (.returned v) t ∧
      Goes p e below T g T' { g with pc := g.pc + 3, stack := v.toList ++ rest }) ∨
    (∃ (q : Addr) (st₀ t T' : State) (L : List Loc) (E : String) (ce : Cell), st₀.heap = H ∧ Stand p l e R s m args below meth c T' (locs ++ L) (cells + mc) (slots + ms) ∧ (∀ z ∈ L, free z.base) ∧ T'.heap = t.heap ∧ T'.vm = t.vm ∧ XC E st₀ t ∧ t.heap[q]? = some ce ∧ ce.vm = .none ∧ s.vm.findClass E = some ce.cls ∧
      Steps p.tables e below (T.setTop g) ((T'.setTop { g with stack := rest }).pushFrame (.throwing q)))
def vx_X {S : Type} (px : S → Prop) (B : String → S → State → Prop) (A : Nat → Prop) : String → State → State → Prop := fun E st t => ∃ u : S, px u ∧ B E u t ∧ va_F A st t
section Runs
variable {p : Program} {l : Launch} {e : Env} {R : Room} {s : State} {m : MethodId} {args : Array Value} {below : List Frame} {meth : Method} {c : Code} {H : Heap} {locs : List Loc} {cells slots : Nat}
variable {y : MethodName} {bytes cc : ByteArray} {maxL nL mc ms n index : Nat} {ret : Option FieldType} {ws : List Cond} {rm : Room} {Pc : Array Value → State → Prop} {Qc : Array Value → State → Outcome → State → Prop} {XC : String → State → State → Prop} {free : Addr → Prop} {Ts : List Cond} {own C : String} {b : Addr} {As rest : List Value} {g : JFrame}
theorem vx_callBack (cb : CallB R s args own index y bytes maxL ret ws rm mc ms n) (hM : vx_Met l y ws rm Pc Qc XC mc ms free) (hbl : FrameBlind Pc) : vx_Back l R p e below s args y 3 8 (PreOf R mc ms Pc) (PostOf Qc mc ms free) (vx_Post XC mc ms free) := by
  obtain ⟨hrc, hrs, hfr, hlo, hws, hcw, -, hini, -⟩ := cb
  exact vx_back (bytes := bytes) (maxL := maxL) (ret := ret) hM hbl hrc hrs hfr hlo hws hcw (fun a' U hW => word_at hW (Or.inl (by first | rfl | simp [Cond.onTables, Cond.keeps, Cond.steady])) hini)
theorem vx_runV (S : CallFix p m c cc nL s args Ts own) (hM : vx_Met l y ws rm Pc Qc XC mc ms free) (cw : CallW R s args own C index y bytes maxL ret ws rm mc ms n) (hp : PreV s H C b Pc As)
    (hg : g.method = m) (hn : As.length = n) (hsize : g.locals.size = nL) (hstack : g.stack = As.reverse ++ .ref b :: rest) (hW : 2 * g.monitorRoom + (rest.map fun v => v.category).sum ≤ 8) (hdg : decode cc g.pc = .ok (.invokevirtual index, 3)) (hf : cells + mc ≤ R.cells ∧ slots + ms ≤ R.slots) :
    vx_Run p l e R s m args below meth c H locs cells slots mc ms g rest (Qc (Value.ref b :: As).toArray) XC free := by
  have hK : vx_Back l R p e below s args y 3 8 (PreOf R mc ms Pc) (PostOf Qc mc ms free) (vx_Post XC mc ms free) := vx_callBack cw.1 hM hp.1
  obtain ⟨⟨-, -, -, -, -, -, hcode, -, hy, hlen, hl⟩, hin, hse⟩ := cw
  obtain ⟨hx, hb, hml, ho, -⟩ := S
  obtain ⟨-, ⟨cellB, hcB, hoB, hclB⟩, hPc⟩ := hp
  intro T hT X
  rcases vx_callV X hx (C := C) (bytes := bytes) (maxL := maxL) (ret := ret) ho hl hin hse hcode hy hK (by rw [hT]; exact hcB) hoB hclB hg (hsize.trans hml.symm) (argsL := As) (rest := rest) (fun sig h => hn.trans (hlen sig h)) hstack hW (by rw [hb]; exact hdg)
    (fun vm₁ hW₁ => ⟨hf.1, hf.2, hPc (T.setVm vm₁) hT hW₁⟩) with ⟨v, vm₁, ⟨U', l2, c2, s2⟩, hW₁, X', ⟨g', mk, t, L, e1, e2, hq, h1, hL, h2, h3⟩, st⟩ | ⟨q, vm₁, ⟨U', l2, c2, s2⟩, hW₁, X', ⟨g', mk, t, L, E, ce, e1, e2, hq, hce, hcv, hcl, h1, hL, h2, h3⟩, st⟩
  · dsimp only [Pt.U, Pt.locs, Pt.cells, Pt.slots] at X' e1 e2 h1 h2 h3 st
    subst h1; subst h2; subst h3
    exact Or.inl ⟨v, (T.setVm vm₁).calling g' mk (Value.ref b :: As).toArray, t, U', L, hT, X', hL, e1, e2, hq, st⟩
  · dsimp only [Pt.U, Pt.locs, Pt.cells, Pt.slots] at X' e1 e2 h1 h2 h3 st hcl
    subst h1; subst h2; subst h3
    exact Or.inr ⟨q, (T.setVm vm₁).calling g' mk (Value.ref b :: As).toArray, t, U', L, E, ce, hT, X', hL, e1, e2, hq, hce, hcv, vx_cls hW₁ hcl, st⟩
theorem vx_runS (S : CallFix p m c cc nL s args Ts own) (hM : vx_Met l y ws rm Pc Qc XC mc ms free) (cw : CallB R s args own index y bytes maxL ret ws rm mc ms n ∧ (Cond.static y).before args s = true) (hp : PreS s H Pc As)
    (hg : g.method = m) (hn : As.length = n) (hsize : g.locals.size = nL) (hstack : g.stack = As.reverse ++ rest) (hW : 2 * g.monitorRoom + (rest.map fun v => v.category).sum ≤ 8) (hdg : decode cc g.pc = .ok (.invokestatic index, 3)) (hf : cells + mc ≤ R.cells ∧ slots + ms ≤ R.slots) :
    vx_Run p l e R s m args below meth c H locs cells slots mc ms g rest (Qc As.toArray) XC free := by
  have hK : vx_Back l R p e below s args y 3 8 (PreOf R mc ms Pc) (PostOf Qc mc ms free) (vx_Post XC mc ms free) := vx_callBack cw.1 hM hp.1
  obtain ⟨⟨-, -, -, -, -, -, hcode, hini, hy, hlen, hl⟩, hstt⟩ := cw
  obtain ⟨hx, hb, hml, ho, -⟩ := S
  intro T hT X
  rcases vx_callS X hx (bytes := bytes) (maxL := maxL) (ret := ret) ho hl hstt hini hcode hy hK hg (hsize.trans hml.symm) (argsL := As) (rest := rest) (fun sig h => hn.trans (hlen sig h)) hstack hW (by rw [hb]; exact hdg)
    (fun vm₁ hW₁ => ⟨hf.1, hf.2, hp.2 (T.setVm vm₁) hT hW₁⟩) with ⟨v, vm₁, ⟨U', l2, c2, s2⟩, hW₁, X', ⟨g', mk, t, L, e1, e2, hq, h1, hL, h2, h3⟩, st⟩ | ⟨q, vm₁, ⟨U', l2, c2, s2⟩, hW₁, X', ⟨g', mk, t, L, E, ce, e1, e2, hq, hce, hcv, hcl, h1, hL, h2, h3⟩, st⟩
  · dsimp only [Pt.U, Pt.locs, Pt.cells, Pt.slots] at X' e1 e2 h1 h2 h3 st
    subst h1; subst h2; subst h3
    exact Or.inl ⟨v, (T.setVm vm₁).calling g' mk As.toArray, t, U', L, hT, X', hL, e1, e2, hq, st⟩
  · dsimp only [Pt.U, Pt.locs, Pt.cells, Pt.slots] at X' e1 e2 h1 h2 h3 st hcl
    subst h1; subst h2; subst h3
    exact Or.inr ⟨q, (T.setVm vm₁).calling g' mk As.toArray, t, U', L, E, ce, hT, X', hL, e1, e2, hq, hce, hcv, vx_cls hW₁ hcl, st⟩
end Runs
section Rows
variable {p : Program} {l : Launch} {e : Env} {R : Room} {s : State} {m : MethodId} {args : Array Value} {below : List Frame} {meth : Method} {c : Code} {H : Heap} {locs : List Loc} {cells slots : Nat} {Q : State → Prop}
variable {mc ms : Nat} {free : Addr → Prop} {A0 A1 : Nat → Prop} {H0 : Heap} {a : Array Value} {pc : Nat} {ls : Array Slot} {st0 rest : List Value}
theorem vx_keep {st₀ t T' : State} {L : List Loc} (h0 : st₀.heap = H) (e1 : T'.heap = t.heap) (hS : va_S A0 H0 H locs) (hA : ∀ q, q < H.size → A1 q → A0 q) (hf : ∀ q, free q → A0 q) (hL : ∀ q ∈ L, free q.base) (hF : va_F A1 st₀ t) :
    H.size ≤ T'.heap.size ∧ (∀ q : Nat, q < H.size → ¬ A1 q → T'.heap[q]? = H[q]?) ∧ va_S A0 H0 T'.heap (locs ++ L) := by
  obtain ⟨hz, hk⟩ := hF
  rw [h0] at hz hk
  exact ⟨by rw [e1]; exact hz, fun q h1 h2 => by rw [e1]; exact hk q h1 h2,
    ⟨Nat.le_trans hS.1 (by rw [e1]; exact hz), fun q h1 h2 => by rw [e1, hk q (Nat.lt_of_lt_of_le h1 hS.1) (fun z => h2 (hA q (Nat.lt_of_lt_of_le h1 hS.1) z))]; exact hS.2.1 q h1 h2, fun q hq => by
      rcases List.mem_append.mp hq with h | h
      · exact hS.2.2 q h
      · exact hf _ (hL q h)⟩⟩
theorem vx_calli {S SX : Type} {post : Int32 → S → Prop} {px : SX → Prop} {B : S → State → Prop} {BX : String → SX → State → Prop} {AX : Nat → Prop} (hr : vx_Run p l e R s m args below meth c H locs cells slots mc ms (F0 m pc ls st0) rest (va_Qi post B A1 a) (vx_X px BX AX) free) (hS : va_S A0 H0 H locs) (hA : ∀ q, q < H.size → A1 q → A0 q) (hf : ∀ q, free q → A0 q) (hAX : ∀ q, q < H.size → AX q → A0 q)
    (kx : ∀ (E : String) (ce : Cell) (q9 : Addr) (u : SX) (t : State) (H1 : Heap) (locs1 : List Loc), t.heap = H1 → s.vm.Alike t.vm → px u → BX E u t → H.size ≤ H1.size → (∀ q : Nat, q < H.size → ¬ AX q → H1[q]? = H[q]?) → va_S A0 H0 H1 locs1 → H1[q9]? = some ce → ce.vm = .none → s.vm.findClass E = some ce.cls → vx_W p l e R s m args below meth c H1 locs1 (cells + mc) (slots + ms) Q (F0 m pc ls rest) q9)
    (kk : ∀ (r : Int32) (u : S) (t : State) (H1 : Heap) (locs1 : List Loc), t.heap = H1 → s.vm.Alike t.vm → post r u → B u t → H.size ≤ H1.size → (∀ q : Nat, q < H.size → ¬ A1 q → H1[q]? = H[q]?) → va_S A0 H0 H1 locs1 → W p l e R s m args below meth c H1 locs1 (cells + mc) (slots + ms) Q (F0 m (pc + 3) ls (.int r :: rest))) : W p l e R s m args below meth c H locs cells slots Q (F0 m pc ls st0) := by
  intro T hT X
  rcases hr T hT X with ⟨v, st₀, t, T', L, h0, X', hL, e1, e2, ⟨⟨r, u, hv, hp, hb⟩, hF⟩, st⟩ | ⟨q, st₀, t, T', L, E, ce, h0, X', hL, e1, e2, ⟨u, hp, hb, hF⟩, hce, hcv, hcl, st⟩
  · cases hv
    obtain ⟨k1, k2, k3⟩ := vx_keep h0 e1 hS hA hf hL hF
    obtain ⟨t2, a1, b1⟩ := kk r u t T'.heap (locs ++ L) e1.symm (by rw [← e2]; exact X'.warmed.alike) hp hb k1 k2 k3 T' rfl X'
    exact ⟨t2, st t2 a1, b1⟩
  · obtain ⟨k1, k2, k3⟩ := vx_keep h0 e1 hS hAX hf hL hF
    obtain ⟨t2, a1, b1⟩ := kx E ce q u t T'.heap (locs ++ L) e1.symm (by rw [← e2]; exact X'.warmed.alike) hp hb k1 k2 k3 (by rw [e1]; exact hce) hcv hcl T' rfl X'
    exact ⟨t2, st.trans a1, b1⟩
theorem vx_calll {S SX : Type} {post : Int64 → S → Prop} {px : SX → Prop} {B : S → State → Prop} {BX : String → SX → State → Prop} {AX : Nat → Prop} (hr : vx_Run p l e R s m args below meth c H locs cells slots mc ms (F0 m pc ls st0) rest (va_Ql post B A1 a) (vx_X px BX AX) free) (hS : va_S A0 H0 H locs) (hA : ∀ q, q < H.size → A1 q → A0 q) (hf : ∀ q, free q → A0 q) (hAX : ∀ q, q < H.size → AX q → A0 q)
    (kx : ∀ (E : String) (ce : Cell) (q9 : Addr) (u : SX) (t : State) (H1 : Heap) (locs1 : List Loc), t.heap = H1 → s.vm.Alike t.vm → px u → BX E u t → H.size ≤ H1.size → (∀ q : Nat, q < H.size → ¬ AX q → H1[q]? = H[q]?) → va_S A0 H0 H1 locs1 → H1[q9]? = some ce → ce.vm = .none → s.vm.findClass E = some ce.cls → vx_W p l e R s m args below meth c H1 locs1 (cells + mc) (slots + ms) Q (F0 m pc ls rest) q9)
    (kk : ∀ (r : Int64) (u : S) (t : State) (H1 : Heap) (locs1 : List Loc), t.heap = H1 → s.vm.Alike t.vm → post r u → B u t → H.size ≤ H1.size → (∀ q : Nat, q < H.size → ¬ A1 q → H1[q]? = H[q]?) → va_S A0 H0 H1 locs1 → W p l e R s m args below meth c H1 locs1 (cells + mc) (slots + ms) Q (F0 m (pc + 3) ls (.long r :: rest))) : W p l e R s m args below meth c H locs cells slots Q (F0 m pc ls st0) := by
  intro T hT X
  rcases hr T hT X with ⟨v, st₀, t, T', L, h0, X', hL, e1, e2, ⟨⟨r, u, hv, hp, hb⟩, hF⟩, st⟩ | ⟨q, st₀, t, T', L, E, ce, h0, X', hL, e1, e2, ⟨u, hp, hb, hF⟩, hce, hcv, hcl, st⟩
  · cases hv
    obtain ⟨k1, k2, k3⟩ := vx_keep h0 e1 hS hA hf hL hF
    obtain ⟨t2, a1, b1⟩ := kk r u t T'.heap (locs ++ L) e1.symm (by rw [← e2]; exact X'.warmed.alike) hp hb k1 k2 k3 T' rfl X'
    exact ⟨t2, st t2 a1, b1⟩
  · obtain ⟨k1, k2, k3⟩ := vx_keep h0 e1 hS hAX hf hL hF
    obtain ⟨t2, a1, b1⟩ := kx E ce q u t T'.heap (locs ++ L) e1.symm (by rw [← e2]; exact X'.warmed.alike) hp hb k1 k2 k3 (by rw [e1]; exact hce) hcv hcl T' rfl X'
    exact ⟨t2, st.trans a1, b1⟩
theorem vx_callf {S SX : Type} {post : UInt32 → S → Prop} {px : SX → Prop} {B : S → State → Prop} {BX : String → SX → State → Prop} {AX : Nat → Prop} (hr : vx_Run p l e R s m args below meth c H locs cells slots mc ms (F0 m pc ls st0) rest (va_Qf post B A1 a) (vx_X px BX AX) free) (hS : va_S A0 H0 H locs) (hA : ∀ q, q < H.size → A1 q → A0 q) (hf : ∀ q, free q → A0 q) (hAX : ∀ q, q < H.size → AX q → A0 q)
    (kx : ∀ (E : String) (ce : Cell) (q9 : Addr) (u : SX) (t : State) (H1 : Heap) (locs1 : List Loc), t.heap = H1 → s.vm.Alike t.vm → px u → BX E u t → H.size ≤ H1.size → (∀ q : Nat, q < H.size → ¬ AX q → H1[q]? = H[q]?) → va_S A0 H0 H1 locs1 → H1[q9]? = some ce → ce.vm = .none → s.vm.findClass E = some ce.cls → vx_W p l e R s m args below meth c H1 locs1 (cells + mc) (slots + ms) Q (F0 m pc ls rest) q9)
    (kk : ∀ (r : UInt32) (u : S) (t : State) (H1 : Heap) (locs1 : List Loc), t.heap = H1 → s.vm.Alike t.vm → post r u → B u t → H.size ≤ H1.size → (∀ q : Nat, q < H.size → ¬ A1 q → H1[q]? = H[q]?) → va_S A0 H0 H1 locs1 → W p l e R s m args below meth c H1 locs1 (cells + mc) (slots + ms) Q (F0 m (pc + 3) ls (.float r :: rest))) : W p l e R s m args below meth c H locs cells slots Q (F0 m pc ls st0) := by
  intro T hT X
  rcases hr T hT X with ⟨v, st₀, t, T', L, h0, X', hL, e1, e2, ⟨⟨r, u, hv, hp, hb⟩, hF⟩, st⟩ | ⟨q, st₀, t, T', L, E, ce, h0, X', hL, e1, e2, ⟨u, hp, hb, hF⟩, hce, hcv, hcl, st⟩
  · cases hv
    obtain ⟨k1, k2, k3⟩ := vx_keep h0 e1 hS hA hf hL hF
    obtain ⟨t2, a1, b1⟩ := kk r u t T'.heap (locs ++ L) e1.symm (by rw [← e2]; exact X'.warmed.alike) hp hb k1 k2 k3 T' rfl X'
    exact ⟨t2, st t2 a1, b1⟩
  · obtain ⟨k1, k2, k3⟩ := vx_keep h0 e1 hS hAX hf hL hF
    obtain ⟨t2, a1, b1⟩ := kx E ce q u t T'.heap (locs ++ L) e1.symm (by rw [← e2]; exact X'.warmed.alike) hp hb k1 k2 k3 (by rw [e1]; exact hce) hcv hcl T' rfl X'
    exact ⟨t2, st.trans a1, b1⟩
theorem vx_calld {S SX : Type} {post : UInt64 → S → Prop} {px : SX → Prop} {B : S → State → Prop} {BX : String → SX → State → Prop} {AX : Nat → Prop} (hr : vx_Run p l e R s m args below meth c H locs cells slots mc ms (F0 m pc ls st0) rest (va_Qd post B A1 a) (vx_X px BX AX) free) (hS : va_S A0 H0 H locs) (hA : ∀ q, q < H.size → A1 q → A0 q) (hf : ∀ q, free q → A0 q) (hAX : ∀ q, q < H.size → AX q → A0 q)
    (kx : ∀ (E : String) (ce : Cell) (q9 : Addr) (u : SX) (t : State) (H1 : Heap) (locs1 : List Loc), t.heap = H1 → s.vm.Alike t.vm → px u → BX E u t → H.size ≤ H1.size → (∀ q : Nat, q < H.size → ¬ AX q → H1[q]? = H[q]?) → va_S A0 H0 H1 locs1 → H1[q9]? = some ce → ce.vm = .none → s.vm.findClass E = some ce.cls → vx_W p l e R s m args below meth c H1 locs1 (cells + mc) (slots + ms) Q (F0 m pc ls rest) q9)
    (kk : ∀ (r : UInt64) (u : S) (t : State) (H1 : Heap) (locs1 : List Loc), t.heap = H1 → s.vm.Alike t.vm → post r u → B u t → H.size ≤ H1.size → (∀ q : Nat, q < H.size → ¬ A1 q → H1[q]? = H[q]?) → va_S A0 H0 H1 locs1 → W p l e R s m args below meth c H1 locs1 (cells + mc) (slots + ms) Q (F0 m (pc + 3) ls (.double r :: rest))) : W p l e R s m args below meth c H locs cells slots Q (F0 m pc ls st0) := by
  intro T hT X
  rcases hr T hT X with ⟨v, st₀, t, T', L, h0, X', hL, e1, e2, ⟨⟨r, u, hv, hp, hb⟩, hF⟩, st⟩ | ⟨q, st₀, t, T', L, E, ce, h0, X', hL, e1, e2, ⟨u, hp, hb, hF⟩, hce, hcv, hcl, st⟩
  · cases hv
    obtain ⟨k1, k2, k3⟩ := vx_keep h0 e1 hS hA hf hL hF
    obtain ⟨t2, a1, b1⟩ := kk r u t T'.heap (locs ++ L) e1.symm (by rw [← e2]; exact X'.warmed.alike) hp hb k1 k2 k3 T' rfl X'
    exact ⟨t2, st t2 a1, b1⟩
  · obtain ⟨k1, k2, k3⟩ := vx_keep h0 e1 hS hAX hf hL hF
    obtain ⟨t2, a1, b1⟩ := kx E ce q u t T'.heap (locs ++ L) e1.symm (by rw [← e2]; exact X'.warmed.alike) hp hb k1 k2 k3 (by rw [e1]; exact hce) hcv hcl T' rfl X'
    exact ⟨t2, st.trans a1, b1⟩
theorem vx_callv {S SX : Type} {post : S → Prop} {px : SX → Prop} {B : S → State → Prop} {BX : String → SX → State → Prop} {AX : Nat → Prop} (hr : vx_Run p l e R s m args below meth c H locs cells slots mc ms (F0 m pc ls st0) rest (va_Qv post B A1 a) (vx_X px BX AX) free) (hS : va_S A0 H0 H locs) (hA : ∀ q, q < H.size → A1 q → A0 q) (hf : ∀ q, free q → A0 q) (hAX : ∀ q, q < H.size → AX q → A0 q)
    (kx : ∀ (E : String) (ce : Cell) (q9 : Addr) (u : SX) (t : State) (H1 : Heap) (locs1 : List Loc), t.heap = H1 → s.vm.Alike t.vm → px u → BX E u t → H.size ≤ H1.size → (∀ q : Nat, q < H.size → ¬ AX q → H1[q]? = H[q]?) → va_S A0 H0 H1 locs1 → H1[q9]? = some ce → ce.vm = .none → s.vm.findClass E = some ce.cls → vx_W p l e R s m args below meth c H1 locs1 (cells + mc) (slots + ms) Q (F0 m pc ls rest) q9)
    (kk : ∀ (u : S) (t : State) (H1 : Heap) (locs1 : List Loc), t.heap = H1 → s.vm.Alike t.vm → post u → B u t → H.size ≤ H1.size → (∀ q : Nat, q < H.size → ¬ A1 q → H1[q]? = H[q]?) → va_S A0 H0 H1 locs1 → W p l e R s m args below meth c H1 locs1 (cells + mc) (slots + ms) Q (F0 m (pc + 3) ls (rest))) : W p l e R s m args below meth c H locs cells slots Q (F0 m pc ls st0) := by
  intro T hT X
  rcases hr T hT X with ⟨v, st₀, t, T', L, h0, X', hL, e1, e2, ⟨⟨u, hv, hp, hb⟩, hF⟩, st⟩ | ⟨q, st₀, t, T', L, E, ce, h0, X', hL, e1, e2, ⟨u, hp, hb, hF⟩, hce, hcv, hcl, st⟩
  · cases hv
    obtain ⟨k1, k2, k3⟩ := vx_keep h0 e1 hS hA hf hL hF
    obtain ⟨t2, a1, b1⟩ := kk u t T'.heap (locs ++ L) e1.symm (by rw [← e2]; exact X'.warmed.alike) hp hb k1 k2 k3 T' rfl X'
    exact ⟨t2, st t2 a1, b1⟩
  · obtain ⟨k1, k2, k3⟩ := vx_keep h0 e1 hS hAX hf hL hF
    obtain ⟨t2, a1, b1⟩ := kx E ce q u t T'.heap (locs ++ L) e1.symm (by rw [← e2]; exact X'.warmed.alike) hp hb k1 k2 k3 (by rw [e1]; exact hce) hcv hcl T' rfl X'
    exact ⟨t2, st.trans a1, b1⟩
/-- caught by the row x of this method's table; the rows ahead don't take it -/
theorem vx_catch {own name : String} {E : String} {ce : Cell} {q : Addr} (hown : s.vm.findClass own = some m.cls) (pre : List ExceptionTableEntry) (x : ExceptionTableEntry) (suf : List ExceptionTableEntry) (hsplit : c.exceptionTable.toList = pre ++ x :: suf)
    (hpass : ∀ z ∈ pre, covers z pc = false ∨ (z.catchType ≠ 0 ∧ ∃ nm : String, (Cond.classLink own z.catchType nm).before args s = true ∧ va_Nc E nm s)) (hx : covers x pc = true) (h0 : x.catchType ≠ 0)
    (hlink : (Cond.classLink own x.catchType name).before args s = true) (hcast : (Cond.castable E name).before args s = true) (hcell : H[q]? = some ce) (hv : ce.vm = .none) (hcl : s.vm.findClass E = some ce.cls)
    (kk : W p l e R s m args below meth c H locs cells slots Q (F0 m x.handlerPc ls [.ref q])) : vx_W p l e R s m args below meth c H locs cells slots Q (F0 m pc ls rest) q := by
  intro T hT X
  have hpl : e.platform.magicAccessors = ({} : Platform).magicAccessors := by rw [X.admits.platform]
  obtain ⟨c3, c4, hc3, hc4, hasg⟩ := Cond.castable_spec hcast
  cases Option.some.inj (hc3.symm.trans hcl)
  obtain ⟨c5, hc5, hcl5⟩ := Cond.classLink_spec hown hlink e.platform hpl
  cases Option.some.inj (hc4.symm.trans hc5)
  obtain ⟨vm', X', st⟩ := X.thenCaughtThrough q (g := F0 m pc ls rest) rfl (Steps.refl _) (by rw [hT]; exact hcell) (by rw [hv]; rfl) (by obtain ⟨k9, h9, -⟩ := Vm.findClass_spec hcl; exact ⟨k9, h9⟩) pre x suf hsplit
    (fun z hz => by
      rcases hpass z hz with h | ⟨hz0, nm, hl1, hn1⟩
      · exact Or.inl h
      · obtain ⟨c6, hc6, hcl6⟩ := Cond.classLink_spec hown hl1 e.platform hpl
        obtain ⟨a8, b8, h1, h2, h3⟩ := hn1
        cases Option.some.inj (h1.symm.trans hcl)
        cases Option.some.inj (h2.symm.trans hc6)
        exact Or.inr ⟨hz0, _, hcl6, h3⟩) hx (Or.inr ⟨h0, c4, hcl5, hasg⟩)
  obtain ⟨t, a1, b1⟩ := kk (T.setVm vm') hT X'
  exact ⟨t, st.trans a1, b1⟩
end Rows
section Ends
variable {p : Program} {l : Launch} {e : Env} {R : Room} {s : State} {m : MethodId} {args : Array Value} {below : List Frame} {meth : Method} {c : Code} {H : Heap} {locs : List Loc} {cells slots : Nat} {Q : State → Prop}
variable {mc ms : Nat} {free : Addr → Prop} {A0 A1 : Nat → Prop} {H0 : Heap} {a : Array Value} {ls : Array Slot} {st0 rest : List Value}
variable {Qc : Array Value → State → Outcome → State → Prop} {XC : String → State → State → Prop}
/-- what a body that may throw owes at its end -/
def vx_MQ (below : List Frame) (Qc : Array Value → State → Outcome → State → Prop) (XC : String → State → State → Prop) (a : Array Value) (s : State) (mc ms : Nat) (free : Addr → Prop) : State → Prop := fun t =>
  ∃ o, t.status = .running ∧ Ended t below o ∧ vx_Q Qc XC mc ms free a s o t
theorem vx_ret {g : JFrame} {mc ms : Nat} (k : W p l e R s m args below meth c H locs cells slots (MQ below Qc args s mc ms free) g) : W p l e R s m args below meth c H locs cells slots (vx_MQ below Qc XC args s mc ms free) g := by
  intro T hT X
  obtain ⟨t, a1, o, b1, b2, b3, b4⟩ := k T hT X
  exact ⟨t, a1, o, b1, b2, Or.inl ⟨b3, b4⟩⟩
/-- not caught here: it goes on to the caller -/
theorem vx_widen {g : JFrame} {q : Addr} {k n : Nat} (h1 : cells ≤ k) (h2 : slots ≤ n) (kk : vx_W p l e R s m args below meth c H locs k n Q g q) : vx_W p l e R s m args below meth c H locs cells slots Q g q := fun T hT X => kk T hT (stand_widen X h1 h2)
theorem vx_out {pc : Nat} {E : String} {ce : Cell} {q : Addr} {mc ms : Nat} (hout : ∀ x ∈ c.exceptionTable.toList, covers x pc = false) (hlocks : meth.locks = false) (hcell : H[q]? = some ce) (hv : ce.vm = .none) (hcl : s.vm.findClass E = some ce.cls)
    (hx : ∀ t : State, t.heap = H → s.vm.Alike t.vm → XC E s t) (hf : ∀ z ∈ locs, free z.base) (hc : cells ≤ mc) (hs : slots ≤ ms) :
    vx_W p l e R s m args below meth c H locs cells slots (vx_MQ below Qc XC args s mc ms free) (F0 m pc ls rest) q := by
  intro T hT X
  obtain ⟨st1, hrun, hend, hW, hsm⟩ := X.leaveThrown q (g := F0 m pc ls rest) rfl rfl rfl hout hlocks
  have hcell9 : (T.setFrames (.throwing q :: below)).heap[q]? = some ce := by
    show T.heap[q]? = some ce
    rw [hT]; exact hcell
  exact ⟨_, st1, .threw q, hrun, hend, Or.inr ⟨q, rfl, E, ce, locs, hx _ hT hW.alike, hcell9, hv, hcl, hW, hsm.mono hc hs, hf⟩⟩
theorem vx_frame {U : State} {k n : Nat} (h : s.sameButNew ({ U with vm := s.vm } : State) locs k n) : s.heap.size ≤ U.heap.size ∧ ∀ q : Nat, q < s.heap.size → (∀ z ∈ locs, z.base ≠ q) → U.heap[q]? = s.heap[q]? := by
  obtain ⟨-, h2, -, -, -, h6⟩ := h
  refine ⟨h2, fun q hq hz => ?_⟩
  obtain ⟨c9, e1, e2, e3, e4⟩ := h6 q _ (Array.getElem?_eq_getElem hq)
  have hs : c9.slots = (s.heap[q]).slots := Array.ext_getElem? fun i => e4 i fun hm => hz _ hm rfl
  have h9 : c9 = s.heap[q] := by
    rw [hs] at e2
    exact e2
  have e5 : U.heap[q]? = some c9 := e1
  rw [e5, h9, Array.getElem?_eq_getElem hq]
/-- the words of a throw but the four that speak of the heap -/
def vx_no (w : Cond) : Bool := decide (w ≠ .isRef (.static Bundle.tN "UNASSIGNED_STACK" Bundle.steD)) && decide (w ≠ .isRef (.static Bundle.tN "SUPPRESSED_SENTINEL" Bundle.listD)) && decide (w ≠ .laysStatic Bundle.tN "UNASSIGNED_STACK" Bundle.steD) && decide (w ≠ .laysStatic Bundle.tN "SUPPRESSED_SENTINEL" Bundle.listD)
def vx_at0 (own : String) (ic : Nat) (X : String) (names : List String) : List Cond := (Bundle.ownAtoms0 own ic X names).filter vx_no
def vx_atS (own : String) (ic : Nat) (X : String) (names : List String) : List Cond := (Bundle.ownAtoms own ic X names).filter vx_no
/-- a word that the tables alone decide, or a good one -/
def vx_ot (w : Cond) : Bool := w.onTables || goodWord w
theorem vx_ot_at {args a' : Array Value} {s U : State} {w : Cond} (hW : s.WarmedH U.vm) (hvm : s.vm = U.vm) (hg : vx_ot w = true) (h : w.before args s = true) : w.before a' U = true := by
  simp only [vx_ot, Bool.or_eq_true] at hg
  rcases hg with hg | hg
  · exact va_tabs hg hvm h
  · exact word_at hW (good_of_word hg) h
/-- a list's words: the good ones out of the method's own list, the others by premises of their own -/
theorem vx_hat {args : Array Value} {s : State} {L B : List Cond} (h1 : ∀ w ∈ L.filter goodWord, w.before args s = true) (h2 : ∀ w ∈ L.filter (fun w => !goodWord w), w ∈ B) (h3 : ∀ w ∈ B, w.before args s = true) : ∀ w ∈ L, w.before args s = true := by
  intro w hw
  by_cases g : goodWord w = true
  · exact h1 w (List.mem_filter.mpr ⟨hw, g⟩)
  · refine h3 w (h2 w (List.mem_filter.mpr ⟨hw, ?_⟩))
    show (!goodWord w) = true
    cases hgw : goodWord w
    · rfl
    · exact absurd hgw g
theorem vx_c {args : Array Value} {s : State} {w : Cond} {B : List Cond} (h : w.before args s = true) (t : ∀ w ∈ B, w.before args s = true) : ∀ w' ∈ w :: B, w'.before args s = true := fun w' h' => (List.mem_cons.mp h').elim (fun e => by rw [e]; exact h) (t w')
theorem vx_n {args : Array Value} {s : State} : ∀ w ∈ ([] : List Cond), w.before args s = true := fun _ h => nomatch h
theorem vx_own {args : Array Value} {s : State} {L : List Cond} (h1 : ∀ w ∈ L.filter vx_no, w.before args s = true)
    (hU : (Cond.isRef (.static Bundle.tN "UNASSIGNED_STACK" Bundle.steD)).before args s = true) (hN : (Cond.isRef (.static Bundle.tN "SUPPRESSED_SENTINEL" Bundle.listD)).before args s = true)
    (lU : (Cond.laysStatic Bundle.tN "UNASSIGNED_STACK" Bundle.steD).before args s = true) (lN : (Cond.laysStatic Bundle.tN "SUPPRESSED_SENTINEL" Bundle.listD).before args s = true) : ∀ w ∈ L, w.before args s = true := by
  intro w hw
  by_cases e1 : w = .isRef (.static Bundle.tN "UNASSIGNED_STACK" Bundle.steD)
  · rw [e1]; exact hU
  · by_cases e2 : w = .isRef (.static Bundle.tN "SUPPRESSED_SENTINEL" Bundle.listD)
    · rw [e2]; exact hN
    · by_cases e3 : w = .laysStatic Bundle.tN "UNASSIGNED_STACK" Bundle.steD
      · rw [e3]; exact lU
      · by_cases e4 : w = .laysStatic Bundle.tN "SUPPRESSED_SENTINEL" Bundle.listD
        · rw [e4]; exact lN
        · exact h1 w (List.mem_filter.mpr ⟨hw, by unfold vx_no; rw [decide_eq_true e1, decide_eq_true e2, decide_eq_true e3, decide_eq_true e4]; rfl⟩)
/-- where a static field lies, its class's statics cell in H -/
def vx_L (C n d : String) (A : Nat → Prop) (U : State) (H : Heap) : Prop := ∃ (c : ClassId) (k : Class) (i : Nat) (f : Field) (a : Nat) (cell : Cell), U.vm.findClass C = some c ∧ U.fieldFound? C n d = some (c, k, i, f) ∧ f.isStatic = true ∧ k.statics = some a ∧ H[a]? = some cell ∧ cell.vm.isStatics = true ∧ cell.cls = c ∧ f.slot < cell.slots.size ∧ k.staticTypes[f.slot]? = some f.type ∧ ¬ A a
theorem vx_L.moved {C n d : String} {A : Nat → Prop} {u U : State} {H : Heap} (hvm : u.vm.Alike U.vm) (h : vx_L C n d A u H) : vx_L C n d A U H := by
  obtain ⟨c, k, i, f, a, cell, h1, h2, h3, h4, h5, h6, h7, h8, h9, h10⟩ := h
  obtain ⟨k', hi', he⟩ := State.fieldFound?_setVm hvm h2
  exact ⟨c, k', i, f, a, cell, by rw [hvm.findClass]; exact h1, hi', h3, by rw [he]; exact h4, h5, h6, h7, h8, by rw [he]; exact h9, h10⟩
theorem vx_L.kept {C n d : String} {A : Nat → Prop} {U : State} {H H1 : Heap} (h : vx_L C n d A U H) (hq : ∀ a : Nat, a < H.size → ¬ A a → H1[a]? = H[a]?) : vx_L C n d A U H1 := by
  obtain ⟨c, k, i, f, a, cell, h1, h2, h3, h4, h5, h6, h7, h8, h9, h10⟩ := h
  exact ⟨c, k, i, f, a, cell, h1, h2, h3, h4, by rw [hq a (Array.getElem?_eq_some_iff.mp h5).1 h10]; exact h5, h6, h7, h8, h9, h10⟩
theorem vx_L.narrow {C n d : String} {A B : Nat → Prop} {U : State} {H : Heap} (h : vx_L C n d A U H) (hAB : ∀ q, B q → A q) : vx_L C n d B U H := by
  obtain ⟨c, k, i, f, a, cell, h1, h2, h3, h4, h5, h6, h7, h8, h9, h10⟩ := h
  exact ⟨c, k, i, f, a, cell, h1, h2, h3, h4, h5, h6, h7, h8, h9, fun z => h10 (hAB _ z)⟩
theorem vx_L.word {C n d : String} {A : Nat → Prop} {s : State} {args : Array Value} (h : vx_L C n d A s s.heap) : (Cond.laysStatic C n d).before args s = true := by
  obtain ⟨c, k, i, f, a, cell, h1, h2, h3, h4, h5, h6, h7, h8, h9, -⟩ := h
  show (Cond.laysStatic C n d).holds args s none s [] = true
  exact Cond.laysStatic_of h1 h2 h3 h4 h5 h6 h7 h8 h9
/-- .. and what it holds: null or some reference -/
def vx_Zq (C n d : String) (A : Nat → Prop) (U : State) (H : Heap) : Prop := va_Zq C n d A U H ∧ vx_L C n d A U H
theorem vx_Zq.moved {C n d : String} {A : Nat → Prop} {u U : State} {H : Heap} (hvm : u.vm.Alike U.vm) (h : vx_Zq C n d A u H) : vx_Zq C n d A U H := ⟨va_Zq.moved hvm h.1, vx_L.moved hvm h.2⟩
theorem vx_Zq.kept {C n d : String} {A : Nat → Prop} {U : State} {H H1 : Heap} (h : vx_Zq C n d A U H) (hq : ∀ a : Nat, a < H.size → ¬ A a → H1[a]? = H[a]?) : vx_Zq C n d A U H1 := ⟨va_Zq.kept h.1 hq, vx_L.kept h.2 hq⟩
theorem vx_Zq.narrow {C n d : String} {A B : Nat → Prop} {U : State} {H : Heap} (h : vx_Zq C n d A U H) (hAB : ∀ q, B q → A q) : vx_Zq C n d B U H := ⟨va_Zq.narrow h.1 hAB, vx_L.narrow h.2 hAB⟩
theorem vx_Zqof {args : Array Value} {s : State} {C n d : String} {A : Nat → Prop} (hl : (Cond.laysStatic C n d).before args s = true) (hini : (Cond.initialized C).before args s = true) (h : (Cond.isRef (.static C n d)).before args s = true) (hA : ∀ a : Nat, a < s.heap.size → ¬ A a) : vx_Zq C n d A s s.heap := by
  refine ⟨va_Zqof hl hini h hA, ?_⟩
  obtain ⟨c, k, i, f, a, cell, h1, h2, h3, h4, h5, h6, h7, h8, h9⟩ := Cond.laysStatic_spec hl
  exact ⟨c, k, i, f, a, cell, h1, h2, h3, h4, h5, h6, h7, h8, h9, hA a (Array.getElem?_eq_some_iff.mp h5).1⟩
theorem vx_isRef {C n d : String} {v : Value} {A : Nat → Prop} {s : State} {args : Array Value} (h : va_Z C n d v A s s.heap) (hv : v.isRef = true) : (Cond.isRef (.static C n d)).before args s = true := by
  obtain ⟨cf, kf, fi, f, a, cell, h1, h2, h3, h4, h5, h6, h7, -⟩ := h
  have he : (Term.static C n d).eval args s none [] s = some v := by
    simp [Term.eval, State.fieldNamed?, h1, h2, h4, h5, h6, h7]
  simp only [Cond.before, Cond.holds, Cond.value, he]
  cases v <;> simp_all [Value.isRef]
theorem vx_isRefq {C n d : String} {A : Nat → Prop} {s : State} {args : Array Value} (h : va_Zq C n d A s s.heap) : (Cond.isRef (.static C n d)).before args s = true := by
  rcases h with h | ⟨t, h⟩
  · exact vx_isRef h rfl
  · exact vx_isRef h rfl
/-- the same frame, seen from here: as if the method were called anew in this heap -/
theorem vx_rebase {T : State} (X : Stand p l e R s m args below meth c T locs cells slots) {R' : Room} (hf : R'.frames ≤ R.frames) (hl : R'.locals ≤ R.locals) (hc : cells + R'.cells ≤ R.cells) (hs : slots + R'.slots ≤ R.slots) :
    Stand p l e R' ((T.setVm s.vm).setFrames (.invoking m args :: below)) m args below meth c T [] 0 0 := by
  have htop : (T.setVm s.vm).topJava?.isSome := X.here.top
  have hF : ((T.setVm s.vm).setFrames (.invoking m args :: below)).frames = .invoking m args :: below := State.frames_setFrames _ (State.cur_lt_of_top htop)
  obtain ⟨g₀, hg0⟩ := Option.isSome_iff_exists.mp htop
  obtain ⟨r, hr⟩ := State.topJava?_eq_some.mp hg0
  have hl9 : e.platform.stackLimits (T.setVm s.vm).me = e.platform.stackLimits s.me := X.limits
  have hb9 : (T.setVm s.vm).me.stackBytes = s.me.stackBytes := X.bytes
  refine ⟨X.admits, X.cas, X.clock, hF, ?_, X.hears, X.method, X.code, X.here, X.tail, X.warmed, ?_, ?_, ?_⟩
  · have h := X.room
    have hU : ((T.setVm s.vm).setFrames (.invoking m args :: below)).localsInUse = s.localsInUse := by
      rw [State.localsInUse_invoking hF (meth := meth) (c := c) X.method X.code, State.localsInUse_invoking X.frames X.method X.code]
    simp only [State.hasRoom, Bool.and_eq_true, decide_eq_true_eq] at h ⊢
    obtain ⟨⟨⟨⟨h1, h2, h3, h4, h5, h6⟩, h7⟩, h8⟩, h9⟩ := h
    rw [X.frames, List.length_cons] at h2 h3
    have q1 := X.heapSize
    have q2 := X.used
    simp only [hF, hU, List.length_cons, State.stackLimits_setFrames, State.stackBytes_setFrames, hl9, hb9]
    refine ⟨⟨⟨⟨by omega, by omega, by omega, by omega, by omega, h6⟩, ?_⟩, ?_⟩, X.book⟩
    · show T.heap.size + R'.cells ≤ e.platform.maxCells
      omega
    · show T.slotsUsed + R'.slots ≤ e.platform.maxSlots
      omega
  · rw [State.stackLimits_setFrames]; rfl
  · rw [State.stackBytes_setFrames]; rfl
  · refine ⟨?_, Nat.le_refl _, Nat.le_refl _, ?_, ?_, fun a c9 h9 => ⟨c9, h9, rfl, rfl, fun _ _ => rfl⟩⟩
    · obtain ⟨t, ht, -⟩ := State.frames_cons hr
      show T.setVm s.vm = { ((T.setVm s.vm).setFrames (.invoking m args :: below)).setFrames (T.setVm s.vm).frames with heap := T.heap, slotsUsed := T.slotsUsed }
      rw [State.setFrames_setFrames, State.setFrames_self ht]
      rfl
    · show T.slotsUsed = T.slotsUsed + ((T.heap.toList.drop T.heap.size).map (·.slots.size)).sum
      rw [List.drop_eq_nil_of_le (Nat.le_of_eq Array.length_toList)]
      rfl
    · show ((T.heap.toList.drop T.heap.size).map (·.slots.size)).sum ≤ 0
      rw [List.drop_eq_nil_of_le (Nat.le_of_eq Array.length_toList)]
      exact Nat.le_refl _
/-- 'throw new E()': new; dup; invokespecial; athrow -/
theorem vx_throw0 {cc : ByteArray} {pc : Nat} (hexec : p.tables.exec = Jvm.exec) (hb : c.code = cc) (hl : l.stackTraces = false) {own cls : String} {names : List String} {ik ic mc ms : Nat} {A : Nat → Prop}
    (hown : s.vm.findClass own = some m.cls) (hcls : Bundle.fit cls = true) (hnames : ∀ n ∈ names, Bundle.fit n = true)
    (hk : (Cond.classLink own ik cls).before args s = true) (hini : (Cond.initialized cls).before args s = true) (hat : ∀ w ∈ vx_at0 own ic cls names, w.before args s = true)
    (hgood : ∀ w ∈ Cond.classLink own ik cls :: Cond.initialized cls :: vx_at0 own ic cls names, vx_ot w = true)
    (hU : vx_Zq Bundle.tN "UNASSIGNED_STACK" Bundle.steD A s s.heap) (hN : vx_Zq Bundle.tN "SUPPRESSED_SENTINEL" Bundle.listD A s s.heap) (hS : va_S A s.heap H locs) (hsize : ls.size = c.maxLocals)
    (d0 : decode cc pc = .ok (.new ik, 3)) (d3 : decode cc (pc + 3) = .ok (.dup, 1)) (d4 : decode cc (pc + 4) = .ok (.invokespecial ic, 3)) (d7 : decode cc (pc + 7) = .ok (.athrow, 1))
    (hout : ∀ x ∈ c.exceptionTable.toList, covers x (pc + 7) = false)
    (hRframes : names.length + 3 < R.frames) (hRlocals : (rest.map fun v => v.category).sum + (13 * (names.length + 1) + 42) ≤ R.locals) (hRcells : cells + 1 ≤ R.cells) (hRslots : slots + 6 ≤ R.slots) (hlocks : meth.locks = false)
    (hx : ∀ t : State, s.vm.Alike t.vm → H.size ≤ t.heap.size → (∀ q : Nat, q < H.size → t.heap[q]? = H[q]?) → XC cls s t)
    (hf : ∀ z ∈ locs, free z.base) (hc : cells + 1 ≤ mc) (hs : slots + 6 ≤ ms) :
    W p l e R s m args below meth c H locs cells slots (vx_MQ below Qc XC args s mc ms free) (F0 m pc ls rest) := by
  intro T hT X
  have htr : e.platform.stackTraces = false := (show e.platform.stackTraces = l.stackTraces by rw [X.admits.platform]).trans hl
  have Y := vx_rebase X (R' := { frames := R.frames, locals := R.locals, cells := 1, slots := 6 }) (Nat.le_refl _) (Nat.le_refl _) hRcells hRslots
  obtain ⟨s', hA⟩ : ∃ z, z = (T.setVm s.vm).setFrames (.invoking m args :: below) := ⟨_, rfl⟩
  rw [← hA] at Y
  have hvm : s'.vm = s.vm := by rw [hA]; rfl
  have hhp : s'.heap = H := by rw [hA]; exact hT
  have hW0 : s.WarmedH s'.vm := by rw [hvm]; exact State.WarmedH.refl s
  have hat' : ∀ w ∈ vx_at0 own ic cls names, w.before args s' = true := fun w hw => vx_ot_at hW0 hvm.symm (hgood w (List.mem_cons_of_mem _ (List.mem_cons_of_mem _ hw))) (hat w hw)
  have hk' : (Cond.classLink own ik cls).before args s' = true := vx_ot_at hW0 hvm.symm (hgood _ List.mem_cons_self) hk
  have hini' : (Cond.initialized cls).before args s' = true := vx_ot_at hW0 hvm.symm (hgood _ (List.mem_cons_of_mem _ List.mem_cons_self)) hini
  have hU' : vx_Zq Bundle.tN "UNASSIGNED_STACK" Bundle.steD A s' s'.heap := by rw [hhp]; exact vx_Zq.moved hW0.alike (hU.kept hS.2.1)
  have hN' : vx_Zq Bundle.tN "SUPPRESSED_SENTINEL" Bundle.listD A s' s'.heap := by rw [hhp]; exact vx_Zq.moved hW0.alike (hN.kept hS.2.1)
  have h : ∀ w ∈ Bundle.ownAtoms0 own ic cls names, w.before args s' = true := vx_own hat' (vx_isRefq hU'.1) (vx_isRefq hN'.1) hU'.2.word hN'.2.word
  have hown' : s'.vm.findClass own = some m.cls := by rw [hvm]; exact hown
  have hins : (Cond.instantiable cls 6).before args s' = true := h _ (by simp [Bundle.ownAtoms0])
  obtain ⟨vm₁, cX, kX, hfX, hkX, -, -, X₁, st1⟩ := Y.newCold hexec (own := own) (C := cls) (index := ik) (n := 6) hown' hk' hins hini'
    (g := F0 m pc ls rest) rfl (by rw [hb]; exact d0) (Nat.le_refl _) (Nat.le_refl _)
  generalize hT1 : (T.setVm vm₁).pushCell { cls := cX, slots := kX.instanceTypes.map defaultValue, vm := .none } = T1 at X₁ st1
  have hcat : (Value.ref T.heap.size).category = 1 := rfl
  have hcellA : T1.heap[T.heap.size]? = some (freshCell cX kX) := by rw [← hT1]; exact State.heap_pushCell_size _ _
  have d3' : decode c.code (pc + 3) = .ok (.dup, 1) := by rw [hb]; exact d3
  obtain ⟨U, hsteps, hrun, hend, hW, hsame, ce, hce, hO⟩ := X₁.ctorThrow0 hexec htr (own := own) (cls := cls) (names := names) (ic := ic) hown' hcls hnames h (fun x hx => nomatch hx) hfX hkX hcellA (by rw [hhp, hT]; exact Nat.le_refl _)
    (g := { method := m, pc := pc + 4, locals := ls, stack := .ref T.heap.size :: .ref T.heap.size :: rest, locked := none }) rfl hsize rfl rfl (rest := rest) rfl
    (by rw [hb]; exact d4) (by rw [hb]; exact d7) hout hRframes (by simp only [List.map_cons, List.sum_cons, hcat]; omega) hlocks
  obtain ⟨f1, f2⟩ := vx_frame hsame
  rw [hhp] at f1 f2
  have hWs : s.WarmedH U.vm := State.WarmedH.trans hW0 hW
  have hcl : s.vm.findClass cls = some ce.cls := by
    have h9 := hO.cls
    rw [hvm] at h9
    exact h9
  have hall : s.sameButNew ({ U with vm := s.vm } : State) locs mc ms := by
    subst hA
    obtain ⟨e1, e2⟩ := hsame
    rw [State.setFrames_setFrames] at e1
    have h2 : (T.setVm s.vm).sameButNew ({ U with vm := s.vm } : State) [] (0 + 1) (0 + 6) := ⟨e1, e2⟩
    have h3 := X.same.trans h2
    rw [List.append_nil] at h3
    exact h3.mono hc hs
  refine ⟨U, ?_, .threw T.heap.size, hrun, hend, Or.inr ⟨T.heap.size, rfl, cls, ce, locs, hx U hWs.alike f1 (fun q hq => f2 q hq (fun z hz => nomatch hz)), hce, hO.vm, hcl, hWs, hall, hf⟩⟩
  refine st1 _ ?_
  show Steps p.tables e below (T1.setTop { method := m, pc := pc + 3, locals := ls, stack := .ref T.heap.size :: rest, locked := none }) _
  jvm_step X₁.here [X₁.here.top, hexec, d3', Value.category]
  exact hsteps
/-- 'throw new E("text")': new; dup; ldc; invokespecial; athrow -/
theorem vx_throwS {cc : ByteArray} {pc : Nat} (hexec : p.tables.exec = Jvm.exec) (hb : c.code = cc) (hl : l.stackTraces = false) {own cls text : String} {names : List String} {ik is ic mc ms sa : Nat} {A : Nat → Prop}
    (hown : s.vm.findClass own = some m.cls) (hcls : Bundle.fit cls = true) (hnames : ∀ n ∈ names, Bundle.fit n = true)
    (hk : (Cond.classLink own ik cls).before args s = true) (hini : (Cond.initialized cls).before args s = true) (hstr : vk_R own is text sa s) (hat : ∀ w ∈ vx_atS own ic cls names, w.before args s = true)
    (hgood : ∀ w ∈ Cond.classLink own ik cls :: Cond.initialized cls :: vx_atS own ic cls names, vx_ot w = true)
    (hU : vx_Zq Bundle.tN "UNASSIGNED_STACK" Bundle.steD A s s.heap) (hN : vx_Zq Bundle.tN "SUPPRESSED_SENTINEL" Bundle.listD A s s.heap) (hS : va_S A s.heap H locs) (hsize : ls.size = c.maxLocals)
    (d0 : decode cc pc = .ok (.new ik, 3)) (d3 : decode cc (pc + 3) = .ok (.dup, 1)) (d4 : decode cc (pc + 4) = .ok (.ldc is, 2)) (d6 : decode cc (pc + 6) = .ok (.invokespecial ic, 3)) (d9 : decode cc (pc + 9) = .ok (.athrow, 1))
    (hout : ∀ x ∈ c.exceptionTable.toList, covers x (pc + 9) = false)
    (hRframes : names.length + 3 < R.frames) (hRlocals : (rest.map fun v => v.category).sum + (13 * (names.length + 1) + 43) ≤ R.locals) (hRcells : cells + 1 ≤ R.cells) (hRslots : slots + 6 ≤ R.slots) (hlocks : meth.locks = false)
    (hx : ∀ t : State, s.vm.Alike t.vm → H.size ≤ t.heap.size → (∀ q : Nat, q < H.size → t.heap[q]? = H[q]?) → XC cls s t)
    (hf : ∀ z ∈ locs, free z.base) (hc : cells + 1 ≤ mc) (hs : slots + 6 ≤ ms) :
    W p l e R s m args below meth c H locs cells slots (vx_MQ below Qc XC args s mc ms free) (F0 m pc ls rest) := by
  intro T hT X
  have htr : e.platform.stackTraces = false := (show e.platform.stackTraces = l.stackTraces by rw [X.admits.platform]).trans hl
  have Y := vx_rebase X (R' := { frames := R.frames, locals := R.locals, cells := 1, slots := 6 }) (Nat.le_refl _) (Nat.le_refl _) hRcells hRslots
  obtain ⟨s', hA⟩ : ∃ z, z = (T.setVm s.vm).setFrames (.invoking m args :: below) := ⟨_, rfl⟩
  rw [← hA] at Y
  have hvm : s'.vm = s.vm := by rw [hA]; rfl
  have hhp : s'.heap = H := by rw [hA]; exact hT
  have hW0 : s.WarmedH s'.vm := by rw [hvm]; exact State.WarmedH.refl s
  have hat' : ∀ w ∈ vx_atS own ic cls names, w.before args s' = true := fun w hw => vx_ot_at hW0 hvm.symm (hgood w (List.mem_cons_of_mem _ (List.mem_cons_of_mem _ hw))) (hat w hw)
  have hk' : (Cond.classLink own ik cls).before args s' = true := vx_ot_at hW0 hvm.symm (hgood _ List.mem_cons_self) hk
  have hini' : (Cond.initialized cls).before args s' = true := vx_ot_at hW0 hvm.symm (hgood _ (List.mem_cons_of_mem _ List.mem_cons_self)) hini
  have hU' : vx_Zq Bundle.tN "UNASSIGNED_STACK" Bundle.steD A s' s'.heap := by rw [hhp]; exact vx_Zq.moved hW0.alike (hU.kept hS.2.1)
  have hN' : vx_Zq Bundle.tN "SUPPRESSED_SENTINEL" Bundle.listD A s' s'.heap := by rw [hhp]; exact vx_Zq.moved hW0.alike (hN.kept hS.2.1)
  have h : ∀ w ∈ Bundle.ownAtoms own ic cls names, w.before args s' = true := vx_own hat' (vx_isRefq hU'.1) (vx_isRefq hN'.1) hU'.2.word hN'.2.word
  have hown' : s'.vm.findClass own = some m.cls := by rw [hvm]; exact hown
  have hins : (Cond.instantiable cls 6).before args s' = true := h _ (by simp [Bundle.ownAtoms])
  obtain ⟨vm₁, cX, kX, hfX, hkX, -, -, X₁, st1⟩ := Y.newCold hexec (own := own) (C := cls) (index := ik) (n := 6) hown' hk' hins hini'
    (g := F0 m pc ls rest) rfl (by rw [hb]; exact d0) (Nat.le_refl _) (Nat.le_refl _)
  generalize hT1 : (T.setVm vm₁).pushCell { cls := cX, slots := kX.instanceTypes.map defaultValue, vm := .none } = T1 at X₁ st1
  have hcat : (Value.ref T.heap.size).category = 1 := rfl
  have hcellA : T1.heap[T.heap.size]? = some (freshCell cX kX) := by rw [← hT1]; exact State.heap_pushCell_size _ _
  have d3' : decode c.code (pc + 3) = .ok (.dup, 1) := by rw [hb]; exact d3
  have d4' : decode c.code (pc + 4) = .ok (.ldc is, 2) := by rw [hb]; exact d4
  have hstr' : vk_R own is text sa s' := vk_R.warm hW0 hstr
  obtain ⟨U, hsteps, hrun, hend, hW, hsame, ce, hce, hO⟩ := X₁.ctorThrowS hexec htr (own := own) (cls := cls) (names := names) (ic := ic) hown' hcls hnames h (fun x hx => nomatch hx) hfX hkX hcellA (by rw [hhp, hT]; exact Nat.le_refl _) (msg := .ref sa) rfl
    (g := { method := m, pc := pc + 6, locals := ls, stack := .ref sa :: .ref T.heap.size :: .ref T.heap.size :: rest, locked := none }) rfl hsize rfl rfl (rest := rest) rfl
    (by rw [hb]; exact d6) (by rw [hb]; exact d9) hout hRframes (by simp only [List.map_cons, List.sum_cons, hcat]; omega) hlocks
  obtain ⟨f1, f2⟩ := vx_frame hsame
  rw [hhp] at f1 f2
  have hWs : s.WarmedH U.vm := State.WarmedH.trans hW0 hW
  have hcl : s.vm.findClass cls = some ce.cls := by
    have h9 := hO.cls
    rw [hvm] at h9
    exact h9
  have hall : s.sameButNew ({ U with vm := s.vm } : State) locs mc ms := by
    subst hA
    obtain ⟨e1, e2⟩ := hsame
    rw [State.setFrames_setFrames] at e1
    have h2 : (T.setVm s.vm).sameButNew ({ U with vm := s.vm } : State) [] (0 + 1) (0 + 6) := ⟨e1, e2⟩
    have h3 := X.same.trans h2
    rw [List.append_nil] at h3
    exact h3.mono hc hs
  refine ⟨U, ?_, .threw T.heap.size, hrun, hend, Or.inr ⟨T.heap.size, rfl, cls, ce, locs, hx U hWs.alike f1 (fun q hq => f2 q hq (fun z hz => nomatch hz)), hce, hO.vm, hcl, hWs, hall, hf⟩⟩
  refine st1 _ ?_
  show Steps p.tables e below (T1.setTop { method := m, pc := pc + 3, locals := ls, stack := .ref T.heap.size :: rest, locked := none }) _
  jvm_step X₁.here [X₁.here.top, hexec, d3', Value.category]
  exact X₁.ldcString hexec (own := own) (text := text) (index := is) (a := sa) hown' hstr'.1 hstr'.2
    (g := { method := m, pc := pc + 4, locals := ls, stack := .ref T.heap.size :: .ref T.heap.size :: rest, locked := none }) rfl d4' _ hsteps
/-- 'throw new E("text")', the text by a wide index -/
theorem vx_throwSW {cc : ByteArray} {pc : Nat} (hexec : p.tables.exec = Jvm.exec) (hb : c.code = cc) (hl : l.stackTraces = false) {own cls text : String} {names : List String} {ik is ic mc ms sa : Nat} {A : Nat → Prop}
    (hown : s.vm.findClass own = some m.cls) (hcls : Bundle.fit cls = true) (hnames : ∀ n ∈ names, Bundle.fit n = true)
    (hk : (Cond.classLink own ik cls).before args s = true) (hini : (Cond.initialized cls).before args s = true) (hstr : vk_R own is text sa s) (hat : ∀ w ∈ vx_atS own ic cls names, w.before args s = true)
    (hgood : ∀ w ∈ Cond.classLink own ik cls :: Cond.initialized cls :: vx_atS own ic cls names, vx_ot w = true)
    (hU : vx_Zq Bundle.tN "UNASSIGNED_STACK" Bundle.steD A s s.heap) (hN : vx_Zq Bundle.tN "SUPPRESSED_SENTINEL" Bundle.listD A s s.heap) (hS : va_S A s.heap H locs) (hsize : ls.size = c.maxLocals)
    (d0 : decode cc pc = .ok (.new ik, 3)) (d3 : decode cc (pc + 3) = .ok (.dup, 1)) (d4 : decode cc (pc + 4) = .ok (.ldc_w is, 3)) (d7 : decode cc (pc + 7) = .ok (.invokespecial ic, 3)) (d10 : decode cc (pc + 10) = .ok (.athrow, 1))
    (hout : ∀ x ∈ c.exceptionTable.toList, covers x (pc + 10) = false)
    (hRframes : names.length + 3 < R.frames) (hRlocals : (rest.map fun v => v.category).sum + (13 * (names.length + 1) + 43) ≤ R.locals) (hRcells : cells + 1 ≤ R.cells) (hRslots : slots + 6 ≤ R.slots) (hlocks : meth.locks = false)
    (hx : ∀ t : State, s.vm.Alike t.vm → H.size ≤ t.heap.size → (∀ q : Nat, q < H.size → t.heap[q]? = H[q]?) → XC cls s t)
    (hf : ∀ z ∈ locs, free z.base) (hc : cells + 1 ≤ mc) (hs : slots + 6 ≤ ms) :
    W p l e R s m args below meth c H locs cells slots (vx_MQ below Qc XC args s mc ms free) (F0 m pc ls rest) := by
  intro T hT X
  have htr : e.platform.stackTraces = false := (show e.platform.stackTraces = l.stackTraces by rw [X.admits.platform]).trans hl
  have Y := vx_rebase X (R' := { frames := R.frames, locals := R.locals, cells := 1, slots := 6 }) (Nat.le_refl _) (Nat.le_refl _) hRcells hRslots
  obtain ⟨s', hA⟩ : ∃ z, z = (T.setVm s.vm).setFrames (.invoking m args :: below) := ⟨_, rfl⟩
  rw [← hA] at Y
  have hvm : s'.vm = s.vm := by rw [hA]; rfl
  have hhp : s'.heap = H := by rw [hA]; exact hT
  have hW0 : s.WarmedH s'.vm := by rw [hvm]; exact State.WarmedH.refl s
  have hat' : ∀ w ∈ vx_atS own ic cls names, w.before args s' = true := fun w hw => vx_ot_at hW0 hvm.symm (hgood w (List.mem_cons_of_mem _ (List.mem_cons_of_mem _ hw))) (hat w hw)
  have hk' : (Cond.classLink own ik cls).before args s' = true := vx_ot_at hW0 hvm.symm (hgood _ List.mem_cons_self) hk
  have hini' : (Cond.initialized cls).before args s' = true := vx_ot_at hW0 hvm.symm (hgood _ (List.mem_cons_of_mem _ List.mem_cons_self)) hini
  have hU' : vx_Zq Bundle.tN "UNASSIGNED_STACK" Bundle.steD A s' s'.heap := by rw [hhp]; exact vx_Zq.moved hW0.alike (hU.kept hS.2.1)
  have hN' : vx_Zq Bundle.tN "SUPPRESSED_SENTINEL" Bundle.listD A s' s'.heap := by rw [hhp]; exact vx_Zq.moved hW0.alike (hN.kept hS.2.1)
  have h : ∀ w ∈ Bundle.ownAtoms own ic cls names, w.before args s' = true := vx_own hat' (vx_isRefq hU'.1) (vx_isRefq hN'.1) hU'.2.word hN'.2.word
  have hown' : s'.vm.findClass own = some m.cls := by rw [hvm]; exact hown
  have hins : (Cond.instantiable cls 6).before args s' = true := h _ (by simp [Bundle.ownAtoms])
  obtain ⟨vm₁, cX, kX, hfX, hkX, -, -, X₁, st1⟩ := Y.newCold hexec (own := own) (C := cls) (index := ik) (n := 6) hown' hk' hins hini'
    (g := F0 m pc ls rest) rfl (by rw [hb]; exact d0) (Nat.le_refl _) (Nat.le_refl _)
  generalize hT1 : (T.setVm vm₁).pushCell { cls := cX, slots := kX.instanceTypes.map defaultValue, vm := .none } = T1 at X₁ st1
  have hcat : (Value.ref T.heap.size).category = 1 := rfl
  have hcellA : T1.heap[T.heap.size]? = some (freshCell cX kX) := by rw [← hT1]; exact State.heap_pushCell_size _ _
  have d3' : decode c.code (pc + 3) = .ok (.dup, 1) := by rw [hb]; exact d3
  have d4' : decode c.code (pc + 4) = .ok (.ldc_w is, 3) := by rw [hb]; exact d4
  have hstr' : vk_R own is text sa s' := vk_R.warm hW0 hstr
  obtain ⟨U, hsteps, hrun, hend, hW, hsame, ce, hce, hO⟩ := X₁.ctorThrowS hexec htr (own := own) (cls := cls) (names := names) (ic := ic) hown' hcls hnames h (fun x hx => nomatch hx) hfX hkX hcellA (by rw [hhp, hT]; exact Nat.le_refl _) (msg := .ref sa) rfl
    (g := { method := m, pc := pc + 7, locals := ls, stack := .ref sa :: .ref T.heap.size :: .ref T.heap.size :: rest, locked := none }) rfl hsize rfl rfl (rest := rest) rfl
    (by rw [hb]; exact d7) (by rw [hb]; exact d10) hout hRframes (by simp only [List.map_cons, List.sum_cons, hcat]; omega) hlocks
  obtain ⟨f1, f2⟩ := vx_frame hsame
  rw [hhp] at f1 f2
  have hWs : s.WarmedH U.vm := State.WarmedH.trans hW0 hW
  have hcl : s.vm.findClass cls = some ce.cls := by
    have h9 := hO.cls
    rw [hvm] at h9
    exact h9
  have hall : s.sameButNew ({ U with vm := s.vm } : State) locs mc ms := by
    subst hA
    obtain ⟨e1, e2⟩ := hsame
    rw [State.setFrames_setFrames] at e1
    have h2 : (T.setVm s.vm).sameButNew ({ U with vm := s.vm } : State) [] (0 + 1) (0 + 6) := ⟨e1, e2⟩
    have h3 := X.same.trans h2
    rw [List.append_nil] at h3
    exact h3.mono hc hs
  refine ⟨U, ?_, .threw T.heap.size, hrun, hend, Or.inr ⟨T.heap.size, rfl, cls, ce, locs, hx U hWs.alike f1 (fun q hq => f2 q hq (fun z hz => nomatch hz)), hce, hO.vm, hcl, hWs, hall, hf⟩⟩
  refine st1 _ ?_
  show Steps p.tables e below (T1.setTop { method := m, pc := pc + 3, locals := ls, stack := .ref T.heap.size :: rest, locked := none }) _
  jvm_step X₁.here [X₁.here.top, hexec, d3', Value.category]
  exact X₁.ldcStringW hexec (own := own) (text := text) (index := is) (a := sa) hown' hstr'.1 hstr'.2
    (g := { method := m, pc := pc + 4, locals := ls, stack := .ref T.heap.size :: .ref T.heap.size :: rest, locked := none }) rfl d4' _ hsteps
end Ends
section Bodies
variable {l : Launch}
theorem vx_ofW {y : MethodName} {ws ws' : List Cond} {rm : Room} {Pc : Array Value → State → Prop} {Qc : Array Value → State → Outcome → State → Prop} {XC : String → State → State → Prop} {mc ms : Nat} {free : Addr → Prop} {cc : ByteArray} {maxL : Nat} {ret : Option FieldType}
    (hy : plainName y.cls = true) (hw : ws = Cond.code y cc maxL ret :: ws')
    (body : ∀ p e s m args below meth c s₁, BodyLoose p l y (headSpec ws rm) cc maxL ret e s m args below meth c s₁ → c.maxLocals = maxL → (∀ x ∈ c.exceptionTable.toList, False) → Pc args s →
      W p l e (headSpec ws rm).room s m args below meth c s.heap [] 0 0 (vx_MQ below Qc XC args s mc ms free) (entryFrame m args maxL)) : vx_Met l y ws rm Pc Qc XC mc ms free := by
  refine MetFree.of_bodyS (code := cc) (maxLocals := maxL) (ret := ret) hy ?_ ?_
  · intro args s m h hn
    obtain ⟨meth, c, h1, h2, h3, h4, h5, h6, -, -⟩ := Cond.code_spec hn (atoms_spec (ws := ws) h _ (by rw [hw]; exact List.mem_cons_self))
    exact ⟨meth, c, h1, h2, h3, h4, h5, h6⟩
  · intro p e s m args below meth c s₁ B hml hP _
    have hh0 : s₁.heap = s.heap := by rw [B.state]; rfl
    have ht : ∀ x ∈ c.exceptionTable.toList, False := by
      obtain ⟨meth9, c9, h1, h2, -, -, -, -, h7, -⟩ := Cond.code_spec B.named (atoms_spec (ws := ws) B.pre _ (by rw [hw]; exact List.mem_cons_self))
      cases Option.some.inj (h1.symm.trans B.method)
      cases Option.some.inj (h2.symm.trans (Stand.of_body B).code)
      intro x hx
      rw [Array.isEmpty_iff.mp h7] at hx
      cases hx
    obtain ⟨t, a1, o, b1, b2, b3⟩ := body p e s m args below meth c s₁ B hml ht hP s₁ hh0 (Stand.of_body B)
    exact ⟨t, o, a1, b1, b2, b3⟩
/-- the table of a body with handlers -/
theorem vx_table {p : Program} {x y : MethodName} {S : Spec} {cc bytes : ByteArray} {maxL maxL' : Nat} {ret ret' : Option FieldType} {e : Env} {s s₁ : State} {m : MethodId} {args : Array Value} {below : List Frame} {meth : Method} {c : Code} {hh : List (Nat × Nat × Nat × Nat)}
    (B : BodyLoose p l y S cc maxL ret e s m args below meth c s₁) (h : (Cond.codeWith y bytes maxL' ret' hh).before args s = true) : c.exceptionTable.toList = tableOf hh := by
  obtain ⟨m9, meth9, c9, hn9, h1, h2, -, -, h6, -⟩ := Cond.codeWith_spec h
  cases Option.some.inj (hn9.symm.trans B.named)
  cases Option.some.inj (h1.symm.trans B.method)
  cases Option.some.inj (h2.symm.trans (Stand.of_body B).code)
  rw [← h6, table_eq]
end Bodies
end VXA
/-! ===== END ===== -/
/-! ===== BEGIN a static call of a method with an exception table ===== -/
section VXS
variable {p : Program} {l : Launch} {e : Env} {R : Room} {s : State} {m : MethodId} {args : Array Value} {below : List Frame} {meth : Method} {c : Code} {T : State} {H : Heap} {locs : List Loc} {cells slots : Nat}
abbrev vx_CSW (R : Room) (s : State) (args : Array Value) (own : String) (index : Nat) (y : MethodName) (bytes : ByteArray) (maxL : Nat) (ret : Option FieldType) (hh : List (Nat × Nat × Nat × Nat)) (ws : List Cond) (rm : Room) (mc ms n : Nat) : Prop :=
  (rm.cells = mc ∧ rm.slots = ms ∧ rm.frames + 1 ≤ R.frames ∧ 8 + (maxL + 11) + rm.locals ≤ R.locals ∧ (∀ w ∈ ws, ∀ (a' : Array Value) (U : State), s.WarmedH U.vm → w.before a' U = true) ∧ Cond.codeWith y bytes maxL ret hh ∈ ws) ∧
  (Cond.codeWith y bytes maxL ret hh).before args s = true ∧ (Cond.initialized y.cls).before args s = true ∧ (y.cls ≠ "java/lang/invoke/MethodHandle" ∧ y.cls ≠ "java/lang/invoke/VarHandle") ∧
  (∀ sig, parseMethodDescriptor y.desc = some sig → n = sig.parameters.length) ∧ (Cond.methodLink own index y).before args s = true ∧ (Cond.static y).before args s = true
theorem vx_cwSW {own : String} {index maxL mc ms : Nat} {y : MethodName} {bytes : ByteArray} {ret : Option FieldType} {hh : List (Nat × Nat × Nat × Nat)} {Ts ws ws' : List Cond} {rm : Room} (n : Nat) (ht : ∀ w ∈ Ts, w.before args s = true) (hT : GoodIn Ts (va_wsS own index y ws)) (hw : ws = Cond.codeWith y bytes maxL ret hh :: ws') (hrc : rm.cells = mc) (hrs : rm.slots = ms)
    (hd : y.cls ≠ "java/lang/invoke/MethodHandle" ∧ y.cls ≠ "java/lang/invoke/VarHandle" ∧ (parseMethodDescriptor y.desc).map (fun d => d.parameters.length) = some n) (hR : rm.frames + 1 ≤ R.frames ∧ 8 + (maxL + 11) + rm.locals ≤ R.locals) :
    vx_CSW R s args own index y bytes maxL ret hh ws rm mc ms n := by
  have ok : ∀ w ∈ va_wsS own index y ws, w.before args s = true := fun w h => ht w (hT w h).1
  have hG : GoodIn Ts ws := fun w h => hT w (by unfold va_wsS; exact List.mem_append_right _ h)
  have hc : Cond.codeWith y bytes maxL ret hh ∈ ws := by rw [hw]; exact List.mem_cons_self
  refine ⟨⟨hrc, hrs, hR.1, hR.2, pay_in ht hG, hc⟩, ht _ (hG _ hc).1, ok _ (by simp [va_wsS]), ⟨hd.1, hd.2.1⟩, fun sig h => ?_, ok _ (by simp [va_wsS]), ok _ (by simp [va_wsS])⟩
  have h2 := hd.2.2
  rw [h] at h2
  exact (Option.some.inj h2).symm
theorem vx_callSW (X : Stand p l e R s m args below meth c T locs cells slots) (hexec : p.tables.exec = Jvm.exec) {own : String} {index : Nat} {y : MethodName} {bytes : ByteArray} {maxL : Nat} {ret : Option FieldType} {hh : List (Nat × Nat × Nat × Nat)}
    (hown : s.vm.findClass own = some m.cls) (hlink : (Cond.methodLink own index y).before args s = true) (hstat : (Cond.static y).before args s = true) (hinit : (Cond.initialized y.cls).before args s = true)
    (hcode : (Cond.codeWith y bytes maxL ret hh).before args s = true) (hy : y.cls ≠ "java/lang/invoke/MethodHandle" ∧ y.cls ≠ "java/lang/invoke/VarHandle")
    {W9 : Nat} {Pre : Pt → Array Value → Prop} {Post : Pt → Array Value → Option Value → Pt → Prop} (hK : Back l R p e below s args y 3 W9 Pre Post)
    {g : JFrame} (hg : g.method = m) (hsize : g.locals.size = c.maxLocals) {argsL rest : List Value} (hlen : ∀ sig, parseMethodDescriptor y.desc = some sig → argsL.length = sig.parameters.length)
    (hstack : g.stack = argsL.reverse ++ rest) (hW : 2 * g.monitorRoom + (rest.map fun v => v.category).sum ≤ W9) (hdg : decode c.code g.pc = .ok (.invokestatic index, 3))
    (hpre : ∀ vm₁, s.WarmedH vm₁ → Pre ⟨T.setVm vm₁, locs, cells, slots⟩ argsL.toArray) :
    ∃ (v : Option Value) (vm₁ : Vm) (B : Pt), s.WarmedH vm₁ ∧ Stand p l e R s m args below meth c B.U B.locs B.cells B.slots ∧ Post ⟨T.setVm vm₁, locs, cells, slots⟩ argsL.toArray v B ∧
      ∀ target, Steps p.tables e below (B.U.setTop { g with pc := g.pc + 3, stack := v.toList ++ rest }) target → Steps p.tables e below (T.setTop g) target := by
  obtain ⟨mk, methM, cM, hnamed, hmethM, -, -, -, -, -, -, hsigM⟩ := Cond.codeWith_spec hcode
  have hstatic : methM.isStatic = true := Cond.static_spec hnamed hmethM hstat
  obtain ⟨kP, hkP, -⟩ := className_of_methodNamed hnamed
  have hinitP : kP.init = .initialized := Cond.initialized_spec (findClass_of_methodNamed hnamed) hkP hinit
  obtain ⟨vm₁, X₁, hstep₁⟩ := X.invokestatic hexec hown hlink hnamed hmethM hstatic hkP hinitP hy (g := g) hg (argsL := argsL) (rest := rest) (hlen _ hsigM) hstack hdg
  obtain ⟨v, B, X', hpost, hsteps⟩ := hK m meth c ⟨T.setVm vm₁, locs, cells, slots⟩ { g with stack := rest } (.invokestatic index) mk argsL.toArray X₁ hg hsize hdg hW (X₁.named hnamed) (hpre vm₁ X₁.warmed)
  exact ⟨v, vm₁, B, X₁.warmed, X', hpost, fun target h => hstep₁ _ fun acts => by rw [doInvoke_state]; exact hsteps.trans h⟩
theorem vx_runSW {y : MethodName} {bytes cc : ByteArray} {maxL nL mc ms n index : Nat} {ret : Option FieldType} {hh : List (Nat × Nat × Nat × Nat)} {ws : List Cond} {rm : Room} {Pc : Array Value → State → Prop} {Qc : Array Value → State → Outcome → State → Prop} {free : Addr → Prop} {Ts : List Cond} {own : String} {As rest : List Value} {g : JFrame}
    (S : CallFix p m c cc nL s args Ts own) (hM : Met l y ws rm Pc Qc mc ms free) (cw : vx_CSW R s args own index y bytes maxL ret hh ws rm mc ms n) (hp : PreS s H Pc As)
    (hg : g.method = m) (hn : As.length = n) (hsize : g.locals.size = nL) (hstack : g.stack = As.reverse ++ rest) (hW : 2 * g.monitorRoom + (rest.map fun v => v.category).sum ≤ 8) (hdg : decode cc g.pc = .ok (.invokestatic index, 3)) (hf : cells + mc ≤ R.cells ∧ slots + ms ≤ R.slots) :
    va_Run p l e R s m args below meth c H locs cells slots mc ms g rest (Qc As.toArray) (free) := by
  obtain ⟨⟨hrc, hrs, hfr, hlo, hws, hcw⟩, hcode, hini, hy, hlen, hl, hstt⟩ := cw
  have hK : Back l R p e below s args y 3 8 (PreOf R mc ms Pc) (PostOf Qc mc ms free) := va_backW (hh := hh) (bytes := bytes) (maxL := maxL) (ret := ret) hM hp.1 hrc hrs hfr hlo hws hcw (fun a' U hW => word_at hW (Or.inl (by first | rfl | simp [Cond.onTables, Cond.keeps, Cond.steady])) hini)
  obtain ⟨hx, hb, hml, ho, -⟩ := S
  intro T hT X
  obtain ⟨v, vm₁, ⟨U', l2, c2, s2⟩, hW₁, X', ⟨g', mk, t, L, e1, e2, hq, h1, hL, h2, h3⟩, st⟩ := vx_callSW X hx (hh := hh) (bytes := bytes) (maxL := maxL) (ret := ret) ho hl hstt hini hcode hy hK hg (hsize.trans hml.symm) (argsL := As) (rest := rest) (fun sig h => hn.trans (hlen sig h)) hstack hW (by rw [hb]; exact hdg)
    (fun vm₁ hW₁ => ⟨hf.1, hf.2, hp.2 (T.setVm vm₁) hT hW₁⟩)
  dsimp only [Pt.U, Pt.locs, Pt.cells, Pt.slots] at X' e1 e2 h1 h2 h3 st
  subst h1; subst h2; subst h3
  exact ⟨v, (T.setVm vm₁).calling g' mk As.toArray, t, U', L, hT, X', hL, e1, e2, hq, st⟩
/-- not caught here, past rows that name other classes: it goes on to the caller -/
theorem vx_outP {p : Program} {l : Launch} {e : Env} {R : Room} {s : State} {m : MethodId} {args : Array Value} {below : List Frame} {meth : Method} {c : Code} {H : Heap} {locs : List Loc} {cells slots : Nat} {free : Addr → Prop} {ls : Array Slot} {rest : List Value} {Qc : Array Value → State → Outcome → State → Prop} {XC : String → State → State → Prop}
    {pc : Nat} {own E : String} {ce : Cell} {q : Addr} {mc ms : Nat} (hown : s.vm.findClass own = some m.cls) (hlocks : meth.locks = false)
    (hpass : ∀ z ∈ c.exceptionTable.toList, covers z pc = false ∨ (z.catchType ≠ 0 ∧ ∃ nm : String, (Cond.classLink own z.catchType nm).before args s = true ∧ va_Nc E nm s)) (hcell : H[q]? = some ce) (hv : ce.vm = .none) (hcl : s.vm.findClass E = some ce.cls)
    (hx : ∀ t : State, t.heap = H → s.vm.Alike t.vm → XC E s t) (hf : ∀ z ∈ locs, free z.base) (hc : cells ≤ mc) (hs : slots ≤ ms) :
    vx_W p l e R s m args below meth c H locs cells slots (vx_MQ below Qc XC args s mc ms free) (F0 m pc ls rest) q := by
  intro T hT X
  have hpl : e.platform.magicAccessors = ({} : Platform).magicAccessors := by rw [X.admits.platform]
  obtain ⟨vm', hW', X', st⟩ := X.outThrough hlocks q (g := F0 m pc ls rest) rfl rfl rfl (cell := ce) (by rw [hT]; exact hcell) (by rw [hv]; rfl)
    (by obtain ⟨k9, h9, -⟩ := Vm.findClass_spec hcl; exact ⟨k9, h9⟩) (fun z hz => by
      rcases hpass z hz with h | ⟨hz0, nm, hl1, hn1⟩
      · exact Or.inl h
      · obtain ⟨c6, hc6, hcl6⟩ := Cond.classLink_spec hown hl1 e.platform hpl
        obtain ⟨a8, b8, h1, h2, h3⟩ := hn1
        cases Option.some.inj (h1.symm.trans hcl)
        cases Option.some.inj (h2.symm.trans hc6)
        exact Or.inr ⟨hz0, _, hcl6, h3⟩)
  obtain ⟨g₀, hfr⟩ := X'.frames_eq
  have hcell9 : ((T.setVm vm').setFrames (.throwing q :: below)).heap[q]? = some ce := by
    show T.heap[q]? = some ce
    rw [hT]; exact hcell
  have hend : Ended ((T.setVm vm').setFrames (.throwing q :: below)) below (.threw q) := State.frames_setFrames _ (State.cur_lt_of_frames hfr)
  refine ⟨(T.setVm vm').setFrames (.throwing q :: below), ?_, .threw q, X'.here.running, hend, Or.inr ⟨q, rfl, E, ce, locs, hx _ hT (X'.ends _).1.alike, hcell9, hv, hcl, (X'.ends _).1, (X'.ends _).2.mono hc hs, hf⟩⟩
  rw [X.pushThrowing_eq]
  exact st
/-- a thing of a world lies in the heap -/
theorem vx_lt {D : va_G} {cl : List vw_C} {ws : va_W} {H1 : Heap} (h : va_P D cl ws H1) {k : Nat} {q : Nat × va_E} (hk : ws[k]? = some q) : q.1 < H1.size := (h k q hk).lt
end VXS
/-! ===== END ===== -/
/-! ===== BEGIN methods with a table of their own: called by a name, returning or throwing ===== -/
section VXH
/-! vx_backW, vx_callVX, vx_callSX, vx_callVW, vx_runVW, vx_runVX, vx_runSX, vx_ofWH follow the same proofs as their sisters above (Free/Laws.lean, Shelf42/LK1.lean); vx_outP calls Shelf42/NT130.lean (outThrough). -/
section
variable {l : Launch} {R : Room} {p : Program} {e : Env} {below : List Frame} {s : State} {sargs : Array Value} {y : MethodName} {len W9 : Nat}
theorem vx_backW {ws : List Cond} {rm : Room} {Pc : Array Value → State → Prop} {Qc : Array Value → State → Outcome → State → Prop} {XC : String → State → State → Prop} {mc ms : Nat} {free : Addr → Prop} {bytes : ByteArray} {maxL : Nat} {ret : Option FieldType} {hh : List (Nat × Nat × Nat × Nat)}
    (hM : vx_Met l y ws rm Pc Qc XC mc ms free) (hblind : FrameBlind Pc) (hrc : rm.cells = mc) (hrs : rm.slots = ms)
    (hframes : rm.frames + 1 ≤ R.frames) (hlocals : W9 + (maxL + 11) + rm.locals ≤ R.locals)
    (hws : ∀ w ∈ ws, ∀ a' U, s.WarmedH U.vm → w.before a' U = true) (hcode : Cond.codeWith y bytes maxL ret hh ∈ ws) (hinit : ∀ a' U, s.WarmedH U.vm → (Cond.initialized y.cls).before a' U = true) :
    vx_Back l R p e below s sargs y len W9 (PreOf R mc ms Pc) (PostOf Qc mc ms free) (vx_Post XC mc ms free) := by
  intro m meth c A g ig mk a X hg hsize hdg hW hn hp
  have h1 : (headSpec ws rm).pre.before a A.U = true := atoms_intro fun w hw => hws w hw _ _ X.warmed
  have h2 : (Cond.codeWith y bytes maxL ret hh).before a A.U = true := hws _ hcode _ _ X.warmed
  have h3 : (Cond.initialized y.cls).before a A.U = true := hinit _ _ X.warmed
  have h4 : A.cells + (headSpec ws rm).room.cells ≤ R.cells := by rw [show (headSpec ws rm).room.cells = mc from hrc]; exact hp.1
  have h5 : A.slots + (headSpec ws rm).room.slots ≤ R.slots := by rw [show (headSpec ws rm).room.slots = ms from hrs]; exact hp.2.1
  have hPc : Pc a (A.U.calling g mk a) := hblind _ _ _ _ hp.2.2
  obtain ⟨U, Ls, c0, s0⟩ := A
  dsimp only [Pt.U, Pt.locs, Pt.cells, Pt.slots] at h1 h2 h3 h4 h5 X hn hPc ⊢
  obtain ⟨m9, methY, cY, hn9, hmY, hcY, -, hlY, -⟩ := Cond.codeWith_spec h2
  cases Option.some.inj (hn9.symm.trans hn)
  obtain ⟨kY, hkY, -⟩ := className_of_methodNamed hn
  have hinitY : kY.init = .initialized := Cond.initialized_spec (findClass_of_methodNamed hn) hkY h3
  have h : At U g.method c below := by rw [hg]; exact X.here
  have hlocals9 : W9 + (maxL + 11) + (headSpec ws rm).room.locals ≤ R.locals := hlocals
  have happ : (headSpec ws rm).appliesLoose y e.platform (U.calling g mk a) = true :=
    Spec.appliesLoose_calling (g := g) h hdg hn hkY hinitY
      (X.room_calling (g := g) (R' := (headSpec ws rm).room) hsize hmY hcY hframes (by rw [hlY]; omega) h4 h5) h1
  obtain ⟨mid, hmid⟩ := h.above
  have hfr : (U.setTop g).frames = (.java g :: mid) ++ below := by rw [State.frames_setTop' g h.top, hmid]; rfl
  obtain ⟨o, s₂, hsteps, -, hend, hq⟩ := Steps.callFree hM p X.admits X.cas X.clock (acts := []) hfr happ hPc trivial
  have hq' : vx_Q Qc XC mc ms free a (U.calling g mk a) o s₂ := hq
  rw [State.frames_setTop' g h.top] at hend
  obtain ⟨g₀, hg0⟩ := Option.isSome_iff_exists.mp h.top
  obtain ⟨r, hr⟩ := State.topJava?_eq_some.mp hg0
  have hr' : (({ U with heap := s₂.heap, slotsUsed := s₂.slotsUsed } : State).setVm s₂.vm).frames = .java g₀ :: r := hr
  rcases hq' with ⟨hqc, L, hfe, hL⟩ | ⟨q, rfl, E, ce, L, hx, hce, hcv, hcl, hW₂, hsm, hL⟩
  · obtain ⟨⟨v, rfl⟩, hW₂, e2, q2, q3, q4, q5, q6⟩ := id hfe
    have e3 : s₂ = ({ (U.calling g mk a).setFrames s₂.frames with heap := s₂.heap, slotsUsed := s₂.slotsUsed } : State).setVm s₂.vm := by
      have : s₂ = ({ s₂ with vm := (U.calling g mk a).vm } : State).setVm s₂.vm := rfl
      rw [e2] at this
      exact this
    obtain ⟨c₂, i₂, len₂, hc₂, hd₂, hf₂⟩ := hend
    have hW' : U.WarmedH s₂.vm := hW₂
    have hcc : c₂ = c := by
      have h1 : s₂.code? g.method = U.code? g.method := by
        rw [State.code?_eq, State.code?_eq, hW'.alike.method?]
      exact Option.some.inj (hc₂.symm.trans (h1.trans h.code))
    subst hcc
    have hlen : len₂ = len := by rw [hdg] at hd₂; cases hd₂; rfl
    subst hlen
    have hs₂ : s₂ = (({ U with heap := s₂.heap, slotsUsed := s₂.slotsUsed } : State).setVm s₂.vm).setTop { g with pc := g.pc + len₂, stack := v.toList ++ g.stack } := by
      refine e3.trans ?_
      rw [hf₂, State.calling_eq h.top, State.setFrames_setFrames, State.setTop_of_frames _ hr', hr]
      rfl
    have hsame : U.sameButNew ({ U with heap := s₂.heap, slotsUsed := s₂.slotsUsed } : State) L mc ms := by
      refine ⟨?_, q2, q3, q4, q5, q6⟩
      obtain ⟨t, ht, -⟩ := State.frames_cons hr
      show ({ U with heap := s₂.heap, slotsUsed := s₂.slotsUsed } : State) = { U.setFrames U.frames with heap := s₂.heap, slotsUsed := s₂.slotsUsed }
      rw [State.setFrames_self ht]
    subst hg
    refine Or.inl ⟨v, ⟨(({ U with heap := s₂.heap, slotsUsed := s₂.slotsUsed } : State).setVm s₂.vm), Ls ++ L, c0 + mc, s0 + ms⟩,
      ⟨X.admits, X.cas, X.clock, X.frames, X.room, X.hears, X.method, X.code, (X.here.setHeapUsed s₂.heap s₂.slotsUsed).setVm hW'.alike, X.tail, State.WarmedH.trans X.warmed hW', X.limits, X.bytes, X.same.trans (hsame.setVm s.vm)⟩,
      ⟨g, mk, s₂, L, rfl, rfl, hqc, rfl, hL, rfl, rfl⟩, ?_⟩
    show Steps p.tables e below _ ((({ U with heap := s₂.heap, slotsUsed := s₂.slotsUsed } : State).setVm s₂.vm).setTop { g with pc := g.pc + len₂, stack := v.toList ++ g.stack })
    rw [← hs₂]
    exact hsteps
  · obtain ⟨e2, q2, q3, q4, q5, q6⟩ := id hsm
    have e3 : s₂ = ({ (U.calling g mk a).setFrames s₂.frames with heap := s₂.heap, slotsUsed := s₂.slotsUsed } : State).setVm s₂.vm := by
      have : s₂ = ({ s₂ with vm := (U.calling g mk a).vm } : State).setVm s₂.vm := rfl
      rw [e2] at this
      exact this
    have hf₂ : s₂.frames = .throwing q :: .java g :: U.frames.tail := hend
    have hW' : U.WarmedH s₂.vm := hW₂
    have hs₂ : s₂ = ((({ U with heap := s₂.heap, slotsUsed := s₂.slotsUsed } : State).setVm s₂.vm).setTop g).pushFrame (.throwing q) := by
      refine e3.trans ?_
      rw [hf₂, State.calling_eq h.top, State.setFrames_setFrames, State.pushFrame, State.frames_setTop _ hr', State.setTop_of_frames _ hr', State.setFrames_setFrames, hr]
      rfl
    have hsame : U.sameButNew ({ U with heap := s₂.heap, slotsUsed := s₂.slotsUsed } : State) L mc ms := by
      refine ⟨?_, q2, q3, q4, q5, q6⟩
      obtain ⟨t, ht, -⟩ := State.frames_cons hr
      show ({ U with heap := s₂.heap, slotsUsed := s₂.slotsUsed } : State) = { U.setFrames U.frames with heap := s₂.heap, slotsUsed := s₂.slotsUsed }
      rw [State.setFrames_self ht]
    subst hg
    refine Or.inr ⟨q, ⟨(({ U with heap := s₂.heap, slotsUsed := s₂.slotsUsed } : State).setVm s₂.vm), Ls ++ L, c0 + mc, s0 + ms⟩,
      ⟨X.admits, X.cas, X.clock, X.frames, X.room, X.hears, X.method, X.code, (X.here.setHeapUsed s₂.heap s₂.slotsUsed).setVm hW'.alike, X.tail, State.WarmedH.trans X.warmed hW', X.limits, X.bytes, X.same.trans (hsame.setVm s.vm)⟩,
      ⟨g, mk, s₂, L, E, ce, rfl, rfl, hx, hce, hcv, hcl, rfl, hL, rfl, rfl⟩, ?_⟩
    show Steps p.tables e below _ (((({ U with heap := s₂.heap, slotsUsed := s₂.slotsUsed } : State).setVm s₂.vm).setTop g).pushFrame (.throwing q))
    rw [← hs₂]
    exact hsteps
end
variable {p : Program} {l : Launch} {e : Env} {R : Room} {s : State} {m : MethodId} {args : Array Value} {below : List Frame} {meth : Method} {c : Code} {T : State} {H : Heap} {locs : List Loc} {cells slots : Nat}
theorem vx_callVX (X : Stand p l e R s m args below meth c T locs cells slots) (hexec : p.tables.exec = Jvm.exec) {own C : String} {index : Nat} {y : MethodName} {bytes : ByteArray} {maxL : Nat} {ret : Option FieldType} {hh : List (Nat × Nat × Nat × Nat)}
    (hown : s.vm.findClass own = some m.cls) (hlink : (Cond.methodLink own index y).before args s = true) (hinst : (Cond.instanceMethod y).before args s = true) (hsel : (Cond.selects C y y).before args s = true)
    (hcode : (Cond.codeWith y bytes maxL ret hh).before args s = true) (hy : y.cls ≠ "java/lang/invoke/MethodHandle" ∧ y.cls ≠ "java/lang/invoke/VarHandle")
    {W9 : Nat} {Pre : Pt → Array Value → Prop} {Post : Pt → Array Value → Option Value → Pt → Prop} {PostX : Pt → Array Value → Addr → Pt → Prop} (hK : vx_Back l R p e below s args y 3 W9 Pre Post PostX)
    {b : Addr} {cellB : Cell} (hcell : T.heap[b]? = some cellB) (hobj : cellB.vm.isStatics = false) (hcls : s.vm.findClass C = some cellB.cls)
    {g : JFrame} (hg : g.method = m) (hsize : g.locals.size = c.maxLocals) {argsL rest : List Value} (hlen : ∀ sig, parseMethodDescriptor y.desc = some sig → argsL.length = sig.parameters.length)
    (hstack : g.stack = argsL.reverse ++ .ref b :: rest) (hW : 2 * g.monitorRoom + (rest.map fun v => v.category).sum ≤ W9) (hdg : decode c.code g.pc = .ok (.invokevirtual index, 3))
    (hpre : ∀ vm₁, s.WarmedH vm₁ → Pre ⟨T.setVm vm₁, locs, cells, slots⟩ (Value.ref b :: argsL).toArray) :
    (∃ (v : Option Value) (vm₁ : Vm) (B : Pt), s.WarmedH vm₁ ∧ Stand p l e R s m args below meth c B.U B.locs B.cells B.slots ∧ Post ⟨T.setVm vm₁, locs, cells, slots⟩ (Value.ref b :: argsL).toArray v B ∧
      ∀ target, Steps p.tables e below (B.U.setTop { g with pc := g.pc + 3, stack := v.toList ++ rest }) target → Steps p.tables e below (T.setTop g) target) ∨
    (∃ (q : Addr) (vm₁ : Vm) (B : Pt), s.WarmedH vm₁ ∧ Stand p l e R s m args below meth c B.U B.locs B.cells B.slots ∧ PostX ⟨T.setVm vm₁, locs, cells, slots⟩ (Value.ref b :: argsL).toArray q B ∧
      Steps p.tables e below (T.setTop g) ((B.U.setTop { g with stack := rest }).pushFrame (.throwing q))) := by
  obtain ⟨mk, methM, hnamed, hmethM, hstM, habM⟩ := Cond.instanceMethod_spec hinst
  obtain ⟨m8, methM', cM, hn8, hmethM', -, -, -, -, -, -, hsigM⟩ := Cond.codeWith_spec hcode
  cases Option.some.inj (hn8.symm.trans hnamed)
  cases hmethM.symm.trans hmethM'
  obtain ⟨c2, r2, m2, q1, q2, q3, q4, kP, hkP, hkPi⟩ := Cond.selects_spec hsel
  cases hcls.symm.trans q1
  cases (State.methodFound?_of_named hnamed hy).symm.trans q2
  cases hnamed.symm.trans q3
  have hselP : selectMethod e.platform s.vm cellB.cls mk = .method mk := by rw [Launch.admits_selectMethod X.admits]; exact q4
  obtain ⟨vm₁, X₁, hstep₁⟩ := X.invokevirtual hexec hown hlink hnamed hmethM hstM hkP hkPi hy (a := b) (cell := cellB) hcell
    (fun z h => by rw [h] at hobj; cases hobj) hselP hmethM habM hkP hkPi (g := g) hg (argsL := argsL) (rest := rest) (hlen _ hsigM) hstack hdg
  rcases hK m meth c ⟨T.setVm vm₁, locs, cells, slots⟩ { g with stack := rest } (.invokevirtual index) mk (Value.ref b :: argsL).toArray X₁ hg hsize hdg hW (X₁.named hnamed) (hpre vm₁ X₁.warmed) with ⟨v, B, X', hpost, hsteps⟩ | ⟨q, B, X', hpost, hsteps⟩
  · exact Or.inl ⟨v, vm₁, B, X₁.warmed, X', hpost, fun target h => hstep₁ _ fun acts => by rw [doInvoke_state]; exact hsteps.trans h⟩
  · exact Or.inr ⟨q, vm₁, B, X₁.warmed, X', hpost, hstep₁ _ fun acts => by rw [doInvoke_state]; exact hsteps⟩
theorem vx_callSX (X : Stand p l e R s m args below meth c T locs cells slots) (hexec : p.tables.exec = Jvm.exec) {own : String} {index : Nat} {y : MethodName} {bytes : ByteArray} {maxL : Nat} {ret : Option FieldType} {hh : List (Nat × Nat × Nat × Nat)}
    (hown : s.vm.findClass own = some m.cls) (hlink : (Cond.methodLink own index y).before args s = true) (hstat : (Cond.static y).before args s = true) (hinit : (Cond.initialized y.cls).before args s = true)
    (hcode : (Cond.codeWith y bytes maxL ret hh).before args s = true) (hy : y.cls ≠ "java/lang/invoke/MethodHandle" ∧ y.cls ≠ "java/lang/invoke/VarHandle")
    {W9 : Nat} {Pre : Pt → Array Value → Prop} {Post : Pt → Array Value → Option Value → Pt → Prop} {PostX : Pt → Array Value → Addr → Pt → Prop} (hK : vx_Back l R p e below s args y 3 W9 Pre Post PostX)
    {g : JFrame} (hg : g.method = m) (hsize : g.locals.size = c.maxLocals) {argsL rest : List Value} (hlen : ∀ sig, parseMethodDescriptor y.desc = some sig → argsL.length = sig.parameters.length)
    (hstack : g.stack = argsL.reverse ++ rest) (hW : 2 * g.monitorRoom + (rest.map fun v => v.category).sum ≤ W9) (hdg : decode c.code g.pc = .ok (.invokestatic index, 3))
    (hpre : ∀ vm₁, s.WarmedH vm₁ → Pre ⟨T.setVm vm₁, locs, cells, slots⟩ argsL.toArray) :
    (∃ (v : Option Value) (vm₁ : Vm) (B : Pt), s.WarmedH vm₁ ∧ Stand p l e R s m args below meth c B.U B.locs B.cells B.slots ∧ Post ⟨T.setVm vm₁, locs, cells, slots⟩ argsL.toArray v B ∧
      ∀ target, Steps p.tables e below (B.U.setTop { g with pc := g.pc + 3, stack := v.toList ++ rest }) target → Steps p.tables e below (T.setTop g) target) ∨
    (∃ (q : Addr) (vm₁ : Vm) (B : Pt), s.WarmedH vm₁ ∧ Stand p l e R s m args below meth c B.U B.locs B.cells B.slots ∧ PostX ⟨T.setVm vm₁, locs, cells, slots⟩ argsL.toArray q B ∧
      Steps p.tables e below (T.setTop g) ((B.U.setTop { g with stack := rest }).pushFrame (.throwing q))) := by
  obtain ⟨mk, methM, cM, hnamed, hmethM, -, -, -, -, -, -, hsigM⟩ := Cond.codeWith_spec hcode
  have hstatic : methM.isStatic = true := Cond.static_spec hnamed hmethM hstat
  obtain ⟨kP, hkP, -⟩ := className_of_methodNamed hnamed
  have hinitP : kP.init = .initialized := Cond.initialized_spec (findClass_of_methodNamed hnamed) hkP hinit
  obtain ⟨vm₁, X₁, hstep₁⟩ := X.invokestatic hexec hown hlink hnamed hmethM hstatic hkP hinitP hy (g := g) hg (argsL := argsL) (rest := rest) (hlen _ hsigM) hstack hdg
  rcases hK m meth c ⟨T.setVm vm₁, locs, cells, slots⟩ { g with stack := rest } (.invokestatic index) mk argsL.toArray X₁ hg hsize hdg hW (X₁.named hnamed) (hpre vm₁ X₁.warmed) with ⟨v, B, X', hpost, hsteps⟩ | ⟨q, B, X', hpost, hsteps⟩
  · exact Or.inl ⟨v, vm₁, B, X₁.warmed, X', hpost, fun target h => hstep₁ _ fun acts => by rw [doInvoke_state]; exact hsteps.trans h⟩
  · exact Or.inr ⟨q, vm₁, B, X₁.warmed, X', hpost, hstep₁ _ fun acts => by rw [doInvoke_state]; exact hsteps⟩
theorem vx_callVW (X : Stand p l e R s m args below meth c T locs cells slots) (hexec : p.tables.exec = Jvm.exec) {own C : String} {index : Nat} {y : MethodName} {bytes : ByteArray} {maxL : Nat} {ret : Option FieldType} {hh : List (Nat × Nat × Nat × Nat)}
    (hown : s.vm.findClass own = some m.cls) (hlink : (Cond.methodLink own index y).before args s = true) (hinst : (Cond.instanceMethod y).before args s = true) (hsel : (Cond.selects C y y).before args s = true)
    (hcode : (Cond.codeWith y bytes maxL ret hh).before args s = true) (hy : y.cls ≠ "java/lang/invoke/MethodHandle" ∧ y.cls ≠ "java/lang/invoke/VarHandle")
    {W9 : Nat} {Pre : Pt → Array Value → Prop} {Post : Pt → Array Value → Option Value → Pt → Prop} (hK : Back l R p e below s args y 3 W9 Pre Post)
    {b : Addr} {cellB : Cell} (hcell : T.heap[b]? = some cellB) (hobj : cellB.vm.isStatics = false) (hcls : s.vm.findClass C = some cellB.cls)
    {g : JFrame} (hg : g.method = m) (hsize : g.locals.size = c.maxLocals) {argsL rest : List Value} (hlen : ∀ sig, parseMethodDescriptor y.desc = some sig → argsL.length = sig.parameters.length)
    (hstack : g.stack = argsL.reverse ++ .ref b :: rest) (hW : 2 * g.monitorRoom + (rest.map fun v => v.category).sum ≤ W9) (hdg : decode c.code g.pc = .ok (.invokevirtual index, 3))
    (hpre : ∀ vm₁, s.WarmedH vm₁ → Pre ⟨T.setVm vm₁, locs, cells, slots⟩ (Value.ref b :: argsL).toArray) :
    ∃ (v : Option Value) (vm₁ : Vm) (B : Pt), s.WarmedH vm₁ ∧ Stand p l e R s m args below meth c B.U B.locs B.cells B.slots ∧ Post ⟨T.setVm vm₁, locs, cells, slots⟩ (Value.ref b :: argsL).toArray v B ∧
      ∀ target, Steps p.tables e below (B.U.setTop { g with pc := g.pc + 3, stack := v.toList ++ rest }) target → Steps p.tables e below (T.setTop g) target := by
  obtain ⟨mk, methM, hnamed, hmethM, hstM, habM⟩ := Cond.instanceMethod_spec hinst
  obtain ⟨m8, methM', cM, hn8, hmethM', -, -, -, -, -, -, hsigM⟩ := Cond.codeWith_spec hcode
  cases Option.some.inj (hn8.symm.trans hnamed)
  cases hmethM.symm.trans hmethM'
  obtain ⟨c2, r2, m2, q1, q2, q3, q4, kP, hkP, hkPi⟩ := Cond.selects_spec hsel
  cases hcls.symm.trans q1
  cases (State.methodFound?_of_named hnamed hy).symm.trans q2
  cases hnamed.symm.trans q3
  have hselP : selectMethod e.platform s.vm cellB.cls mk = .method mk := by rw [Launch.admits_selectMethod X.admits]; exact q4
  obtain ⟨vm₁, X₁, hstep₁⟩ := X.invokevirtual hexec hown hlink hnamed hmethM hstM hkP hkPi hy (a := b) (cell := cellB) hcell
    (fun z h => by rw [h] at hobj; cases hobj) hselP hmethM habM hkP hkPi (g := g) hg (argsL := argsL) (rest := rest) (hlen _ hsigM) hstack hdg
  obtain ⟨v, B, X', hpost, hsteps⟩ := hK m meth c ⟨T.setVm vm₁, locs, cells, slots⟩ { g with stack := rest } (.invokevirtual index) mk (Value.ref b :: argsL).toArray X₁ hg hsize hdg hW (X₁.named hnamed) (hpre vm₁ X₁.warmed)
  exact ⟨v, vm₁, B, X₁.warmed, X', hpost, fun target h => hstep₁ _ fun acts => by rw [doInvoke_state]; exact hsteps.trans h⟩
abbrev vx_CVW (R : Room) (s : State) (args : Array Value) (own C : String) (index : Nat) (y : MethodName) (bytes : ByteArray) (maxL : Nat) (ret : Option FieldType) (hh : List (Nat × Nat × Nat × Nat)) (ws : List Cond) (rm : Room) (mc ms n : Nat) : Prop :=
  (rm.cells = mc ∧ rm.slots = ms ∧ rm.frames + 1 ≤ R.frames ∧ 8 + (maxL + 11) + rm.locals ≤ R.locals ∧ (∀ w ∈ ws, ∀ (a' : Array Value) (U : State), s.WarmedH U.vm → w.before a' U = true) ∧ Cond.codeWith y bytes maxL ret hh ∈ ws) ∧
  (Cond.codeWith y bytes maxL ret hh).before args s = true ∧ (Cond.initialized y.cls).before args s = true ∧ (y.cls ≠ "java/lang/invoke/MethodHandle" ∧ y.cls ≠ "java/lang/invoke/VarHandle") ∧
  (∀ sig, parseMethodDescriptor y.desc = some sig → n = sig.parameters.length) ∧ (Cond.methodLink own index y).before args s = true ∧ (Cond.instanceMethod y).before args s = true ∧ (Cond.selects C y y).before args s = true
theorem vx_cwVW {own C : String} {index maxL mc ms : Nat} {y : MethodName} {bytes : ByteArray} {ret : Option FieldType} {hh : List (Nat × Nat × Nat × Nat)} {Ts ws ws' : List Cond} {rm : Room} (n : Nat) (ht : ∀ w ∈ Ts, w.before args s = true) (hT : GoodIn Ts (wsV own index C y ws)) (hw : ws = Cond.codeWith y bytes maxL ret hh :: ws') (hrc : rm.cells = mc) (hrs : rm.slots = ms)
    (hd : y.cls = C ∧ y.cls ≠ "java/lang/invoke/MethodHandle" ∧ y.cls ≠ "java/lang/invoke/VarHandle" ∧ (parseMethodDescriptor y.desc).map (fun d => d.parameters.length) = some n) (hR : rm.frames + 1 ≤ R.frames ∧ 8 + (maxL + 11) + rm.locals ≤ R.locals) :
    vx_CVW R s args own C index y bytes maxL ret hh ws rm mc ms n := by
  obtain ⟨hC, hd⟩ := hd
  subst hC
  have ok : ∀ w ∈ wsV own index y.cls y ws, w.before args s = true := fun w h => ht w (hT w h).1
  have hG : GoodIn Ts ws := fun w h => hT w (by unfold wsV; exact List.mem_append_right _ h)
  have hc : Cond.codeWith y bytes maxL ret hh ∈ ws := by rw [hw]; exact List.mem_cons_self
  refine ⟨⟨hrc, hrs, hR.1, hR.2, pay_in ht hG, hc⟩, ht _ (hG _ hc).1, ok _ (by simp [wsV]), ⟨hd.1, hd.2.1⟩, fun sig h => ?_, ok _ (by simp [wsV]), ok _ (by simp [wsV]), ok _ (by simp [wsV])⟩
  have h2 := hd.2.2
  rw [h] at h2
  exact (Option.some.inj h2).symm
theorem vx_runVW {y : MethodName} {bytes cc : ByteArray} {maxL nL mc ms n index : Nat} {ret : Option FieldType} {hh : List (Nat × Nat × Nat × Nat)} {ws : List Cond} {rm : Room} {Pc : Array Value → State → Prop} {Qc : Array Value → State → Outcome → State → Prop} {free : Addr → Prop} {Ts : List Cond} {own C : String} {b : Addr} {As rest : List Value} {g : JFrame}
    (S : CallFix p m c cc nL s args Ts own) (hM : Met l y ws rm Pc Qc mc ms free) (cw : vx_CVW R s args own C index y bytes maxL ret hh ws rm mc ms n) (hp : PreV s H C b Pc As)
    (hg : g.method = m) (hn : As.length = n) (hsize : g.locals.size = nL) (hstack : g.stack = As.reverse ++ .ref b :: rest) (hW : 2 * g.monitorRoom + (rest.map fun v => v.category).sum ≤ 8) (hdg : decode cc g.pc = .ok (.invokevirtual index, 3)) (hf : cells + mc ≤ R.cells ∧ slots + ms ≤ R.slots) :
    va_Run p l e R s m args below meth c H locs cells slots mc ms g rest (Qc (Value.ref b :: As).toArray) free := by
  obtain ⟨⟨hrc, hrs, hfr, hlo, hws, hcw⟩, hcode, hini, hy, hlen, hl, hin, hse⟩ := cw
  have hK : Back l R p e below s args y 3 8 (PreOf R mc ms Pc) (PostOf Qc mc ms free) := va_backW (hh := hh) (bytes := bytes) (maxL := maxL) (ret := ret) hM hp.1 hrc hrs hfr hlo hws hcw (fun a' U hW => word_at hW (Or.inl (by first | rfl | simp [Cond.onTables, Cond.keeps, Cond.steady])) hini)
  obtain ⟨hx, hb, hml, ho, -⟩ := S
  obtain ⟨-, ⟨cellB, hcB, hoB, hclB⟩, hPc⟩ := hp
  intro T hT X
  obtain ⟨v, vm₁, ⟨U', l2, c2, s2⟩, hW₁, X', ⟨g', mk, t, L, e1, e2, hq, h1, hL, h2, h3⟩, st⟩ := vx_callVW X hx (C := C) (hh := hh) (bytes := bytes) (maxL := maxL) (ret := ret) ho hl hin hse hcode hy hK (by rw [hT]; exact hcB) hoB hclB hg (hsize.trans hml.symm) (argsL := As) (rest := rest) (fun sig h => hn.trans (hlen sig h)) hstack hW (by rw [hb]; exact hdg)
    (fun vm₁ hW₁ => ⟨hf.1, hf.2, hPc (T.setVm vm₁) hT hW₁⟩)
  dsimp only [Pt.U, Pt.locs, Pt.cells, Pt.slots] at X' e1 e2 h1 h2 h3 st
  subst h1; subst h2; subst h3
  exact ⟨v, (T.setVm vm₁).calling g' mk (Value.ref b :: As).toArray, t, U', L, hT, X', hL, e1, e2, hq, st⟩
section
variable {y : MethodName} {bytes cc : ByteArray} {maxL nL mc ms n index : Nat} {ret : Option FieldType} {ws : List Cond} {rm : Room} {Pc : Array Value → State → Prop} {Qc : Array Value → State → Outcome → State → Prop} {XC : String → State → State → Prop} {free : Addr → Prop} {Ts : List Cond} {own C : String} {b : Addr} {As rest : List Value} {g : JFrame}
theorem vx_runVX {hh : List (Nat × Nat × Nat × Nat)} (S : CallFix p m c cc nL s args Ts own) (hM : vx_Met l y ws rm Pc Qc XC mc ms free) (cw : vx_CVW R s args own C index y bytes maxL ret hh ws rm mc ms n) (hp : PreV s H C b Pc As)
    (hg : g.method = m) (hn : As.length = n) (hsize : g.locals.size = nL) (hstack : g.stack = As.reverse ++ .ref b :: rest) (hW : 2 * g.monitorRoom + (rest.map fun v => v.category).sum ≤ 8) (hdg : decode cc g.pc = .ok (.invokevirtual index, 3)) (hf : cells + mc ≤ R.cells ∧ slots + ms ≤ R.slots) :
    vx_Run p l e R s m args below meth c H locs cells slots mc ms g rest (Qc (Value.ref b :: As).toArray) XC free := by
  obtain ⟨⟨hrc, hrs, hfr, hlo, hws, hcw⟩, hcode, hini, hy, hlen, hl, hin, hse⟩ := cw
  have hK : vx_Back l R p e below s args y 3 8 (PreOf R mc ms Pc) (PostOf Qc mc ms free) (vx_Post XC mc ms free) := vx_backW (hh := hh) (bytes := bytes) (maxL := maxL) (ret := ret) hM hp.1 hrc hrs hfr hlo hws hcw (fun a' U hW => word_at hW (Or.inl (by first | rfl | simp [Cond.onTables, Cond.keeps, Cond.steady])) hini)
  obtain ⟨hx, hb, hml, ho, -⟩ := S
  obtain ⟨-, ⟨cellB, hcB, hoB, hclB⟩, hPc⟩ := hp
  intro T hT X
  rcases vx_callVX X hx (C := C) (hh := hh) (bytes := bytes) (maxL := maxL) (ret := ret) ho hl hin hse hcode hy hK (by rw [hT]; exact hcB) hoB hclB hg (hsize.trans hml.symm) (argsL := As) (rest := rest) (fun sig h => hn.trans (hlen sig h)) hstack hW (by rw [hb]; exact hdg)
    (fun vm₁ hW₁ => ⟨hf.1, hf.2, hPc (T.setVm vm₁) hT hW₁⟩) with ⟨v, vm₁, ⟨U', l2, c2, s2⟩, hW₁, X', ⟨g', mk, t, L, e1, e2, hq, h1, hL, h2, h3⟩, st⟩ | ⟨q, vm₁, ⟨U', l2, c2, s2⟩, hW₁, X', ⟨g', mk, t, L, E, ce, e1, e2, hq, hce, hcv, hcl, h1, hL, h2, h3⟩, st⟩
  · dsimp only [Pt.U, Pt.locs, Pt.cells, Pt.slots] at X' e1 e2 h1 h2 h3 st
    subst h1; subst h2; subst h3
    exact Or.inl ⟨v, (T.setVm vm₁).calling g' mk (Value.ref b :: As).toArray, t, U', L, hT, X', hL, e1, e2, hq, st⟩
  · dsimp only [Pt.U, Pt.locs, Pt.cells, Pt.slots] at X' e1 e2 h1 h2 h3 st hcl
    subst h1; subst h2; subst h3
    exact Or.inr ⟨q, (T.setVm vm₁).calling g' mk (Value.ref b :: As).toArray, t, U', L, E, ce, hT, X', hL, e1, e2, hq, hce, hcv, vx_cls hW₁ hcl, st⟩
theorem vx_runSX {hh : List (Nat × Nat × Nat × Nat)} (S : CallFix p m c cc nL s args Ts own) (hM : vx_Met l y ws rm Pc Qc XC mc ms free) (cw : vx_CSW R s args own index y bytes maxL ret hh ws rm mc ms n) (hp : PreS s H Pc As)
    (hg : g.method = m) (hn : As.length = n) (hsize : g.locals.size = nL) (hstack : g.stack = As.reverse ++ rest) (hW : 2 * g.monitorRoom + (rest.map fun v => v.category).sum ≤ 8) (hdg : decode cc g.pc = .ok (.invokestatic index, 3)) (hf : cells + mc ≤ R.cells ∧ slots + ms ≤ R.slots) :
    vx_Run p l e R s m args below meth c H locs cells slots mc ms g rest (Qc As.toArray) XC free := by
  obtain ⟨⟨hrc, hrs, hfr, hlo, hws, hcw⟩, hcode, hini, hy, hlen, hl, hstt⟩ := cw
  have hK : vx_Back l R p e below s args y 3 8 (PreOf R mc ms Pc) (PostOf Qc mc ms free) (vx_Post XC mc ms free) := vx_backW (hh := hh) (bytes := bytes) (maxL := maxL) (ret := ret) hM hp.1 hrc hrs hfr hlo hws hcw (fun a' U hW => word_at hW (Or.inl (by first | rfl | simp [Cond.onTables, Cond.keeps, Cond.steady])) hini)
  obtain ⟨hx, hb, hml, ho, -⟩ := S
  intro T hT X
  rcases vx_callSX X hx (hh := hh) (bytes := bytes) (maxL := maxL) (ret := ret) ho hl hstt hini hcode hy hK hg (hsize.trans hml.symm) (argsL := As) (rest := rest) (fun sig h => hn.trans (hlen sig h)) hstack hW (by rw [hb]; exact hdg)
    (fun vm₁ hW₁ => ⟨hf.1, hf.2, hp.2 (T.setVm vm₁) hT hW₁⟩) with ⟨v, vm₁, ⟨U', l2, c2, s2⟩, hW₁, X', ⟨g', mk, t, L, e1, e2, hq, h1, hL, h2, h3⟩, st⟩ | ⟨q, vm₁, ⟨U', l2, c2, s2⟩, hW₁, X', ⟨g', mk, t, L, E, ce, e1, e2, hq, hce, hcv, hcl, h1, hL, h2, h3⟩, st⟩
  · dsimp only [Pt.U, Pt.locs, Pt.cells, Pt.slots] at X' e1 e2 h1 h2 h3 st
    subst h1; subst h2; subst h3
    exact Or.inl ⟨v, (T.setVm vm₁).calling g' mk As.toArray, t, U', L, hT, X', hL, e1, e2, hq, st⟩
  · dsimp only [Pt.U, Pt.locs, Pt.cells, Pt.slots] at X' e1 e2 h1 h2 h3 st hcl
    subst h1; subst h2; subst h3
    exact Or.inr ⟨q, (T.setVm vm₁).calling g' mk As.toArray, t, U', L, E, ce, hT, X', hL, e1, e2, hq, hce, hcv, vx_cls hW₁ hcl, st⟩
end
end VXH
theorem vx_ofWH {l : Launch} {y : MethodName} {ws ws' : List Cond} {rm : Room} {Pc : Array Value → State → Prop} {Qc : Array Value → State → Outcome → State → Prop} {XC : String → State → State → Prop} {mc ms : Nat} {free : Addr → Prop} {cc : ByteArray} {maxL : Nat} {ret : Option FieldType} {hh : List (Nat × Nat × Nat × Nat)}
    (hy : plainName y.cls = true) (hw : ws = Cond.codeWith y cc maxL ret hh :: ws')
    (body : ∀ p e s m args below meth c s₁, BodyLoose p l y (headSpec ws rm) cc maxL ret e s m args below meth c s₁ → c.maxLocals = maxL → Pc args s →
      W p l e (headSpec ws rm).room s m args below meth c s.heap [] 0 0 (vx_MQ below Qc XC args s mc ms free) (entryFrame m args maxL)) : vx_Met l y ws rm Pc Qc XC mc ms free := by
  refine MetFree.of_bodyS (code := cc) (maxLocals := maxL) (ret := ret) hy ?_ ?_
  · intro args s m h hn
    obtain ⟨m9, meth, c, hn9, h1, h2, h3, h4, -, h5, h6, -⟩ := Cond.codeWith_spec (atoms_spec (ws := ws) h _ (by rw [hw]; exact List.mem_cons_self))
    cases hn.symm.trans hn9
    exact ⟨meth, c, h1, h2, h3, h4, h5, h6⟩
  · intro p e s m args below meth c s₁ B hml hP _
    have hh0 : s₁.heap = s.heap := by rw [B.state]; rfl
    obtain ⟨t, a1, o, b1, b2, b3⟩ := body p e s m args below meth c s₁ B hml hP s₁ hh0 (Stand.of_body B)
    exact ⟨t, o, a1, b1, b2, b3⟩
/-! ===== END ===== -/
end
section
/-! ===== BEGIN printed: names, fields, word lists, decode rows ===== -/
def RX0 : String := "StateKeeper$Drifts"
def TX0 : u_T := fun k => match k with
  | 0 => ("StateKeeper$Drifts", "sources", "[I", true)
  | 1 => ("StateKeeper$Drifts", "targets", "[I", true)
  | 2 => ("StateKeeper$Drifts", "factors", "[F", true)
  | _ => ("StateKeeper$Drifts", "size", "I", false)
def tyX0 : Nat → FieldType := fun k => match k with
  | 0 => .array .int
  | 1 => .array .int
  | 2 => .array .float
  | _ => .int
abbrev wsX00 : List Cond := u_ws RX0 TX0 4
theorem nmX0 : ∀ a, a < 4 → ∀ b, b < 4 → a ≠ b → (TX0 a).2.1 ≠ (TX0 b).2.1 := by decide +kernel
theorem tyX0_ok : ∀ k, k < 4 → parseFieldDescriptor (TX0 k).2.2.1 = some (tyX0 k) := by decide +kernel
abbrev cX0_init : ByteArray := prog_2_method_1_code
def yX0_init : MethodName := ⟨RX0, "<init>", "()V"⟩
abbrev cX0_append : ByteArray := prog_2_method_2_code
def yX0_append : MethodName := ⟨RX0, "append", "(IIF)V"⟩
abbrev cX0_flow : ByteArray := prog_2_method_3_code
def yX0_flow : MethodName := ⟨RX0, "flow", "([F)V"⟩
def RX1 : String := "StateKeeper$InputRecord"
def TX1 : u_T := fun k => match k with
  | 0 => ("StateKeeper$InputRecord", "steps", "[I", true)
  | 1 => ("StateKeeper$InputRecord", "targets", "[I", true)
  | 2 => ("StateKeeper$InputRecord", "ways", "[I", true)
  | 3 => ("StateKeeper$InputRecord", "numbers", "[F", true)
  | _ => ("StateKeeper$InputRecord", "size", "I", false)
def tyX1 : Nat → FieldType := fun k => match k with
  | 0 => .array .int
  | 1 => .array .int
  | 2 => .array .int
  | 3 => .array .float
  | _ => .int
abbrev wsX10 : List Cond := u_ws RX1 TX1 5
theorem nmX1 : ∀ a, a < 5 → ∀ b, b < 5 → a ≠ b → (TX1 a).2.1 ≠ (TX1 b).2.1 := by decide +kernel
theorem tyX1_ok : ∀ k, k < 5 → parseFieldDescriptor (TX1 k).2.2.1 = some (tyX1 k) := by decide +kernel
abbrev cX1_init : ByteArray := prog_3_method_1_code
def yX1_init : MethodName := ⟨RX1, "<init>", "()V"⟩
abbrev cX1_sizeBelow : ByteArray := prog_3_method_2_code
def yX1_sizeBelow : MethodName := ⟨RX1, "sizeBelow", "(J)I"⟩
abbrev cX1_sizeOf : ByteArray := prog_3_method_3_code
def yX1_sizeOf : MethodName := ⟨RX1, "sizeOf", "(I)I"⟩
abbrev cX1_append : ByteArray := prog_3_method_4_code
def yX1_append : MethodName := ⟨RX1, "append", "(IIIF)V"⟩
abbrev cX1_dropBelow : ByteArray := prog_3_method_5_code
def yX1_dropBelow : MethodName := ⟨RX1, "dropBelow", "(I)V"⟩
abbrev cX1_dropFrom : ByteArray := prog_3_method_6_code
def yX1_dropFrom : MethodName := ⟨RX1, "dropFrom", "(I)I"⟩
abbrev cX1_moveRest : ByteArray := prog_3_method_7_code
def yX1_moveRest : MethodName := ⟨RX1, "moveRest", "(II)V"⟩
abbrev cX1_putIn : ByteArray := prog_3_method_8_code
def yX1_putIn : MethodName := ⟨RX1, "putIn", "(I[F)V"⟩
abbrev cX1_changed : ByteArray := prog_3_method_9_code
def yX1_changed : MethodName := ⟨RX1, "changed", "(FIF)F"⟩
def RX2 : String := "StateKeeper$Snapshots"
def TX2 : u_T := fun k => match k with
  | 0 => ("StateKeeper$Snapshots", "steps", "[I", true)
  | 1 => ("StateKeeper$Snapshots", "rows", "[[F", true)
  | 2 => ("StateKeeper$Snapshots", "first", "I", false)
  | _ => ("StateKeeper$Snapshots", "size", "I", false)
def tyX2 : Nat → FieldType := fun k => match k with
  | 0 => .array .int
  | 1 => .array (.array .float)
  | 2 => .int
  | _ => .int
abbrev wsX20 : List Cond := u_ws RX2 TX2 4
theorem nmX2 : ∀ a, a < 4 → ∀ b, b < 4 → a ≠ b → (TX2 a).2.1 ≠ (TX2 b).2.1 := by decide +kernel
theorem tyX2_ok : ∀ k, k < 4 → parseFieldDescriptor (TX2 k).2.2.1 = some (tyX2 k) := by decide +kernel
abbrev cX2_init : ByteArray := prog_4_method_1_code
def yX2_init : MethodName := ⟨RX2, "<init>", "(I)V"⟩
abbrev cX2_slot : ByteArray := prog_4_method_2_code
def yX2_slot : MethodName := ⟨RX2, "slot", "(I)I"⟩
abbrev cX2_stepOf : ByteArray := prog_4_method_3_code
def yX2_stepOf : MethodName := ⟨RX2, "stepOf", "(I)I"⟩
abbrev cX2_row : ByteArray := prog_4_method_4_code
def yX2_row : MethodName := ⟨RX2, "row", "(I)[F"⟩
abbrev cX2_find : ByteArray := prog_4_method_5_code
def yX2_find : MethodName := ⟨RX2, "find", "(I)I"⟩
abbrev cX2_highestNotAbove : ByteArray := prog_4_method_6_code
def yX2_highestNotAbove : MethodName := ⟨RX2, "highestNotAbove", "(I)I"⟩
abbrev cX2_take : ByteArray := prog_4_method_7_code
def yX2_take : MethodName := ⟨RX2, "take", "(I[F)Z"⟩
abbrev cX2_dropBehind : ByteArray := prog_4_method_8_code
def yX2_dropBehind : MethodName := ⟨RX2, "dropBehind", "(I)I"⟩
def RX3 : String := "StateKeeper"
def TX3 : u_T := fun k => match k with
  | 0 => ("StateKeeper", "cells", "[F", true)
  | 1 => ("StateKeeper", "driftList", "LStateKeeper$Drifts;", true)
  | 2 => ("StateKeeper", "inputRecord", "LStateKeeper$InputRecord;", true)
  | 3 => ("StateKeeper", "snapshots", "LStateKeeper$Snapshots;", true)
  | 4 => ("StateKeeper", "present", "I", false)
  | 5 => ("StateKeeper", "interval", "I", false)
  | _ => ("StateKeeper", "stepsDone", "I", false)
def tyX3 : Nat → FieldType := fun k => match k with
  | 0 => .array .float
  | 1 => .object "StateKeeper$Drifts"
  | 2 => .object "StateKeeper$InputRecord"
  | 3 => .object "StateKeeper$Snapshots"
  | 4 => .int
  | 5 => .int
  | _ => .int
abbrev wsX30 : List Cond := u_ws RX3 TX3 7
theorem nmX3 : ∀ a, a < 7 → ∀ b, b < 7 → a ≠ b → (TX3 a).2.1 ≠ (TX3 b).2.1 := by decide +kernel
theorem tyX3_ok : ∀ k, k < 7 → parseFieldDescriptor (TX3 k).2.2.1 = some (tyX3 k) := by decide +kernel
abbrev cX3_init : ByteArray := prog_1_method_1_code
def yX3_init : MethodName := ⟨RX3, "<init>", "(I)V"⟩
abbrev cX3_drift : ByteArray := prog_1_method_2_code
def yX3_drift : MethodName := ⟨RX3, "drift", "(IIF)I"⟩
abbrev cX3_every : ByteArray := prog_1_method_3_code
def yX3_every : MethodName := ⟨RX3, "every", "(I)I"⟩
abbrev cX3_input : ByteArray := prog_1_method_4_code
def yX3_input : MethodName := ⟨RX3, "input", "(IIF)I"⟩
abbrev cX3_inputs : ByteArray := prog_1_method_5_code
def yX3_inputs : MethodName := ⟨RX3, "inputs", "(IIIIF)I"⟩
abbrev cX3_step : ByteArray := prog_1_method_6_code
def yX3_step : MethodName := ⟨RX3, "step", "(I)I"⟩
abbrev cX3_keep : ByteArray := prog_1_method_7_code
def yX3_keep : MethodName := ⟨RX3, "keep", "()I"⟩
abbrev cX3_back : ByteArray := prog_1_method_8_code
def yX3_back : MethodName := ⟨RX3, "back", "(I)I"⟩
abbrev cX3_forget : ByteArray := prog_1_method_9_code
def yX3_forget : MethodName := ⟨RX3, "forget", "(I)I"⟩
abbrev cX3_late : ByteArray := prog_1_method_10_code
def yX3_late : MethodName := ⟨RX3, "late", "(IIIF)I"⟩
abbrev cX3_cell : ByteArray := prog_1_method_11_code
def yX3_cell : MethodName := ⟨RX3, "cell", "(I)F"⟩
abbrev cX3_kept : ByteArray := prog_1_method_12_code
def yX3_kept : MethodName := ⟨RX3, "kept", "(II)F"⟩
abbrev cX3_differs : ByteArray := prog_1_method_13_code
def yX3_differs : MethodName := ⟨RX3, "differs", "(I)I"⟩
abbrev cX3_snapshot : ByteArray := prog_1_method_14_code
def yX3_snapshot : MethodName := ⟨RX3, "snapshot", "(I)I"⟩
abbrev cX3_record : ByteArray := prog_1_method_15_code
def yX3_record : MethodName := ⟨RX3, "record", "(III)I"⟩
abbrev cX3_recorded : ByteArray := prog_1_method_16_code
def yX3_recorded : MethodName := ⟨RX3, "recorded", "(II)F"⟩
abbrev cX3_count : ByteArray := prog_1_method_17_code
def yX3_count : MethodName := ⟨RX3, "count", "(I)I"⟩
abbrev cX3_sum : ByteArray := prog_1_method_18_code
def yX3_sum : MethodName := ⟨RX3, "sum", "()F"⟩
abbrev cX3_cellsNotZero : ByteArray := prog_1_method_19_code
def yX3_cellsNotZero : MethodName := ⟨RX3, "cellsNotZero", "()I"⟩
abbrev cX3_doSteps : ByteArray := prog_1_method_20_code
def yX3_doSteps : MethodName := ⟨RX3, "doSteps", "(I)V"⟩
abbrev cX3_keepPresent : ByteArray := prog_1_method_21_code
def yX3_keepPresent : MethodName := ⟨RX3, "keepPresent", "()V"⟩
abbrev cX3_goBackTo : ByteArray := prog_1_method_22_code
def yX3_goBackTo : MethodName := ⟨RX3, "goBackTo", "(I)I"⟩
abbrev cX3_stepAgainFrom : ByteArray := prog_1_method_23_code
def yX3_stepAgainFrom : MethodName := ⟨RX3, "stepAgainFrom", "(I)I"⟩
abbrev cX3_needCell : ByteArray := prog_1_method_24_code
def yX3_needCell : MethodName := ⟨RX3, "needCell", "(I)V"⟩
abbrev cX3_needLastCell : ByteArray := prog_1_method_25_code
def yX3_needLastCell : MethodName := ⟨RX3, "needLastCell", "(III)V"⟩
abbrev cX3_needWayAndNumber : ByteArray := prog_1_method_26_code
def yX3_needWayAndNumber : MethodName := ⟨RX3, "needWayAndNumber", "(IF)V"⟩
abbrev cX3_needRoom : ByteArray := prog_1_method_27_code
def yX3_needRoom : MethodName := ⟨RX3, "needRoom", "(I)V"⟩
abbrev cX3_neededSnapshot : ByteArray := prog_1_method_28_code
def yX3_neededSnapshot : MethodName := ⟨RX3, "neededSnapshot", "(I)I"⟩
abbrev cX3_neededPlace : ByteArray := prog_1_method_29_code
def yX3_neededPlace : MethodName := ⟨RX3, "neededPlace", "(II)I"⟩
abbrev cX3_held : ByteArray := prog_1_method_30_code
def yX3_held : MethodName := ⟨RX3, "held", "(F)F"⟩
def RX4 : String := "StateKeeperModel"
def TX4 : u_T := fun k => match k with
  | 0 => ("StateKeeperModel", "thrown", "I", false)
  | 1 => ("StateKeeperModel", "n", "I", true)
  | 2 => ("StateKeeperModel", "cells", "[F", true)
  | 3 => ("StateKeeperModel", "now", "I", false)
  | 4 => ("StateKeeperModel", "every", "I", false)
  | 5 => ("StateKeeperModel", "done", "I", false)
  | 6 => ("StateKeeperModel", "drifts", "I", false)
  | 7 => ("StateKeeperModel", "from", "[I", true)
  | 8 => ("StateKeeperModel", "to", "[I", true)
  | 9 => ("StateKeeperModel", "factors", "[F", true)
  | 10 => ("StateKeeperModel", "inputs", "I", false)
  | 11 => ("StateKeeperModel", "steps", "[I", true)
  | 12 => ("StateKeeperModel", "which", "[I", true)
  | 13 => ("StateKeeperModel", "ways", "[I", true)
  | 14 => ("StateKeeperModel", "values", "[F", true)
  | 15 => ("StateKeeperModel", "snapshots", "I", false)
  | 16 => ("StateKeeperModel", "keptSteps", "[I", true)
  | _ => ("StateKeeperModel", "keptCells", "[F", true)
def tyX4 : Nat → FieldType := fun k => match k with
  | 0 => .int
  | 1 => .int
  | 2 => .array .float
  | 3 => .int
  | 4 => .int
  | 5 => .int
  | 6 => .int
  | 7 => .array .int
  | 8 => .array .int
  | 9 => .array .float
  | 10 => .int
  | 11 => .array .int
  | 12 => .array .int
  | 13 => .array .int
  | 14 => .array .float
  | 15 => .int
  | 16 => .array .int
  | _ => .array .float
abbrev wsX40 : List Cond := u_ws RX4 TX4 18
theorem nmX4 : ∀ a, a < 18 → ∀ b, b < 18 → a ≠ b → (TX4 a).2.1 ≠ (TX4 b).2.1 := by decide +kernel
theorem tyX4_ok : ∀ k, k < 18 → parseFieldDescriptor (TX4 k).2.2.1 = some (tyX4 k) := by decide +kernel
abbrev cX4_init : ByteArray := prog_6_method_1_code
def yX4_init : MethodName := ⟨RX4, "<init>", "(I)V"⟩
abbrev cX4_thrown : ByteArray := prog_6_method_2_code
def yX4_thrown : MethodName := ⟨RX4, "thrown", "()I"⟩
abbrev cX4_goes : ByteArray := prog_6_method_3_code
def yX4_goes : MethodName := ⟨RX4, "goes", "(ZZZ)Z"⟩
abbrev cX4_known : ByteArray := prog_6_method_4_code
def yX4_known : MethodName := ⟨RX4, "known", "(I)Z"⟩
abbrev cX4_held : ByteArray := prog_6_method_5_code
def yX4_held : MethodName := ⟨RX4, "held", "(F)F"⟩
abbrev cX4_within : ByteArray := prog_6_method_6_code
def yX4_within : MethodName := ⟨RX4, "within", "(F)Z"⟩
abbrev cX4_drift : ByteArray := prog_6_method_7_code
def yX4_drift : MethodName := ⟨RX4, "drift", "(IIF)I"⟩
abbrev cX4_every : ByteArray := prog_6_method_8_code
def yX4_every : MethodName := ⟨RX4, "every", "(I)I"⟩
abbrev cX4_inputsOf : ByteArray := prog_6_method_9_code
def yX4_inputsOf : MethodName := ⟨RX4, "inputsOf", "(I)I"⟩
abbrev cX4_put : ByteArray := prog_6_method_10_code
def yX4_put : MethodName := ⟨RX4, "put", "(IIIF)V"⟩
abbrev cX4_input : ByteArray := prog_6_method_11_code
def yX4_input : MethodName := ⟨RX4, "input", "(IIF)I"⟩
abbrev cX4_inputs : ByteArray := prog_6_method_12_code
def yX4_inputs : MethodName := ⟨RX4, "inputs", "(IIIIF)I"⟩
abbrev cX4_drop : ByteArray := prog_6_method_13_code
def yX4_drop : MethodName := ⟨RX4, "drop", "(II)I"⟩
abbrev cX4_act : ByteArray := prog_6_method_14_code
def yX4_act : MethodName := ⟨RX4, "act", "(I)V"⟩
abbrev cX4_once : ByteArray := prog_6_method_15_code
def yX4_once : MethodName := ⟨RX4, "once", "()V"⟩
abbrev cX4_step : ByteArray := prog_6_method_16_code
def yX4_step : MethodName := ⟨RX4, "step", "(I)I"⟩
abbrev cX4_placeOf : ByteArray := prog_6_method_17_code
def yX4_placeOf : MethodName := ⟨RX4, "placeOf", "(I)I"⟩
abbrev cX4_moveDown : ByteArray := prog_6_method_18_code
def yX4_moveDown : MethodName := ⟨RX4, "moveDown", "()V"⟩
abbrev cX4_keepNow : ByteArray := prog_6_method_19_code
def yX4_keepNow : MethodName := ⟨RX4, "keepNow", "()V"⟩
abbrev cX4_keep : ByteArray := prog_6_method_20_code
def yX4_keep : MethodName := ⟨RX4, "keep", "()I"⟩
abbrev cX4_goBack : ByteArray := prog_6_method_21_code
def yX4_goBack : MethodName := ⟨RX4, "goBack", "(I)I"⟩
abbrev cX4_back : ByteArray := prog_6_method_22_code
def yX4_back : MethodName := ⟨RX4, "back", "(I)I"⟩
abbrev cX4_forget : ByteArray := prog_6_method_23_code
def yX4_forget : MethodName := ⟨RX4, "forget", "(I)I"⟩
abbrev cX4_highest : ByteArray := prog_6_method_24_code
def yX4_highest : MethodName := ⟨RX4, "highest", "(I)I"⟩
abbrev cX4_late : ByteArray := prog_6_method_25_code
def yX4_late : MethodName := ⟨RX4, "late", "(IIIF)I"⟩
abbrev cX4_cell : ByteArray := prog_6_method_26_code
def yX4_cell : MethodName := ⟨RX4, "cell", "(I)F"⟩
abbrev cX4_kept : ByteArray := prog_6_method_27_code
def yX4_kept : MethodName := ⟨RX4, "kept", "(II)F"⟩
abbrev cX4_differs : ByteArray := prog_6_method_28_code
def yX4_differs : MethodName := ⟨RX4, "differs", "(I)I"⟩
abbrev cX4_snapshot : ByteArray := prog_6_method_29_code
def yX4_snapshot : MethodName := ⟨RX4, "snapshot", "(I)I"⟩
abbrev cX4_find : ByteArray := prog_6_method_30_code
def yX4_find : MethodName := ⟨RX4, "find", "(II)I"⟩
abbrev cX4_record : ByteArray := prog_6_method_31_code
def yX4_record : MethodName := ⟨RX4, "record", "(III)I"⟩
abbrev cX4_recorded : ByteArray := prog_6_method_32_code
def yX4_recorded : MethodName := ⟨RX4, "recorded", "(II)F"⟩
abbrev cX4_count : ByteArray := prog_6_method_33_code
def yX4_count : MethodName := ⟨RX4, "count", "(I)I"⟩
abbrev cX4_sum : ByteArray := prog_6_method_34_code
def yX4_sum : MethodName := ⟨RX4, "sum", "()F"⟩
def RJ0 : String := "java/lang/String"
def TJ0 : u_T := fun k => match k with
  | _ => ("", "", "", false)
def tyJ0 : Nat → FieldType := fun k => match k with
  | _ => .int
abbrev wsJ00 : List Cond := u_ws RJ0 TJ0 0
theorem nmJ0 : ∀ a, a < 0 → ∀ b, b < 0 → a ≠ b → (TJ0 a).2.1 ≠ (TJ0 b).2.1 := by decide +kernel
theorem tyJ0_ok : ∀ k, k < 0 → parseFieldDescriptor (TJ0 k).2.2.1 = some (tyJ0 k) := by decide +kernel
def RJ10 : String := "java/lang/System"
def TJ10 : u_T := fun k => match k with
  | _ => ("", "", "", false)
def tyJ10 : Nat → FieldType := fun k => match k with
  | _ => .int
abbrev wsJ100 : List Cond := u_ws RJ10 TJ10 0
theorem nmJ10 : ∀ a, a < 0 → ∀ b, b < 0 → a ≠ b → (TJ10 a).2.1 ≠ (TJ10 b).2.1 := by decide +kernel
theorem tyJ10_ok : ∀ k, k < 0 → parseFieldDescriptor (TJ10 k).2.2.1 = some (tyJ10 k) := by decide +kernel
def RL : String := "StateKeeperLaw"
abbrev cL_cell : ByteArray := method_2_code
def yL_cell : MethodName := ⟨RL, "cell", "([II)I"⟩
abbrev cL_drift : ByteArray := method_3_code
def yL_drift : MethodName := ⟨RL, "drift", "(LStateKeeper;IIF[J)I"⟩
abbrev cL_every : ByteArray := method_4_code
def yL_every : MethodName := ⟨RL, "every", "(LStateKeeper;I[J)I"⟩
abbrev cL_input : ByteArray := method_5_code
def yL_input : MethodName := ⟨RL, "input", "(LStateKeeper;IIF[J)I"⟩
abbrev cL_inputs : ByteArray := method_6_code
def yL_inputs : MethodName := ⟨RL, "inputs", "(LStateKeeper;IIIIF[J)I"⟩
abbrev cL_step : ByteArray := method_7_code
def yL_step : MethodName := ⟨RL, "step", "(LStateKeeper;I[J)I"⟩
abbrev cL_back : ByteArray := method_8_code
def yL_back : MethodName := ⟨RL, "back", "(LStateKeeper;I[J)I"⟩
abbrev cL_forget : ByteArray := method_9_code
def yL_forget : MethodName := ⟨RL, "forget", "(LStateKeeper;I[J)I"⟩
abbrev cL_late : ByteArray := method_10_code
def yL_late : MethodName := ⟨RL, "late", "(LStateKeeper;IIIF[J)I"⟩
abbrev cL_cell_ : ByteArray := method_11_code
def yL_cell_ : MethodName := ⟨RL, "cell", "(LStateKeeper;I[D)I"⟩
abbrev cL_kept : ByteArray := method_12_code
def yL_kept : MethodName := ⟨RL, "kept", "(LStateKeeper;II[D)I"⟩
abbrev cL_differs : ByteArray := method_13_code
def yL_differs : MethodName := ⟨RL, "differs", "(LStateKeeper;I[J)I"⟩
abbrev cL_snapshot : ByteArray := method_14_code
def yL_snapshot : MethodName := ⟨RL, "snapshot", "(LStateKeeper;I[J)I"⟩
abbrev cL_record : ByteArray := method_15_code
def yL_record : MethodName := ⟨RL, "record", "(LStateKeeper;III[J)I"⟩
abbrev cL_recorded : ByteArray := method_16_code
def yL_recorded : MethodName := ⟨RL, "recorded", "(LStateKeeper;II[D)I"⟩
abbrev cL_count : ByteArray := method_17_code
def yL_count : MethodName := ⟨RL, "count", "(LStateKeeper;I[J)I"⟩
abbrev cL_law : ByteArray := code
def yL_law : MethodName := ⟨RL, "law", "([I)Z"⟩
def wsX0_init : List Cond := .code yX0_init cX0_init 1 none :: ([.methodLink RX0 3 objectInit, .instanceMethod objectInit, .code objectInit ⟨#[0xb1]⟩ 1 none, .arrayClass .int, .fieldLink RX0 9 "StateKeeper$Drifts" "sources" "[I", .fieldLink RX0 15 "StateKeeper$Drifts" "targets" "[I", .arrayClass .float, .fieldLink RX0 18 "StateKeeper$Drifts" "factors" "[F"] ++ wsX00)
def wsX0_append : List Cond := .code yX0_append cX0_append 4 none :: ([.fieldLink RX0 9 "StateKeeper$Drifts" "sources" "[I", .fieldLink RX0 22 "StateKeeper$Drifts" "size" "I", .fieldLink RX0 15 "StateKeeper$Drifts" "targets" "[I", .fieldLink RX0 18 "StateKeeper$Drifts" "factors" "[F"] ++ wsX00)
def wsX3_held : List Cond := .code yX3_held cX3_held 1 (some .float) :: ([.constantFloat RX3 189 (3347054592), .constantFloat RX3 190 (1199570944)])
def wsX0_flow : List Cond := .code yX0_flow cX0_flow 4 none :: ([.fieldLink RX0 22 "StateKeeper$Drifts" "size" "I", .fieldLink RX0 15 "StateKeeper$Drifts" "targets" "[I", .fieldLink RX0 9 "StateKeeper$Drifts" "sources" "[I", .fieldLink RX0 18 "StateKeeper$Drifts" "factors" "[F", .static yX3_held, .initialized RX3, .code yX3_held cX3_held 1 (some .float), .constantFloat RX3 189 (3347054592), .constantFloat RX3 190 (1199570944)] ++ wsX00)
def wsX1_init : List Cond := .code yX1_init cX1_init 1 none :: ([.methodLink RX1 3 objectInit, .instanceMethod objectInit, .code objectInit ⟨#[0xb1]⟩ 1 none, .arrayClass .int, .fieldLink RX1 9 "StateKeeper$InputRecord" "steps" "[I", .fieldLink RX1 15 "StateKeeper$InputRecord" "targets" "[I", .fieldLink RX1 18 "StateKeeper$InputRecord" "ways" "[I", .arrayClass .float, .fieldLink RX1 21 "StateKeeper$InputRecord" "numbers" "[F"] ++ wsX10)
def wsX1_sizeBelow : List Cond := .code yX1_sizeBelow cX1_sizeBelow 6 (some .int) :: ([.fieldLink RX1 25 "StateKeeper$InputRecord" "size" "I", .fieldLink RX1 9 "StateKeeper$InputRecord" "steps" "[I"] ++ wsX10)
def wsX1_sizeOf : List Cond := .code yX1_sizeOf cX1_sizeOf 2 (some .int) :: ([.methodLink RX1 29 yX1_sizeBelow, .instanceMethod yX1_sizeBelow, .selects RX1 yX1_sizeBelow yX1_sizeBelow, .initialized RX1, .code yX1_sizeBelow cX1_sizeBelow 6 (some .int), .fieldLink RX1 25 "StateKeeper$InputRecord" "size" "I", .fieldLink RX1 9 "StateKeeper$InputRecord" "steps" "[I"] ++ wsX10)
def wsX1_moveRest : List Cond := .code yX1_moveRest cX1_moveRest 4 none :: ([.fieldLink RX1 25 "StateKeeper$InputRecord" "size" "I", .fieldLink RX1 9 "StateKeeper$InputRecord" "steps" "[I", .methodLink RX1 37 arraycopyName, .native arraycopyName, .static arraycopyName, .initialized "java/lang/System", .fieldLink RX1 15 "StateKeeper$InputRecord" "targets" "[I", .fieldLink RX1 18 "StateKeeper$InputRecord" "ways" "[I", .fieldLink RX1 21 "StateKeeper$InputRecord" "numbers" "[F"] ++ wsX10)
def wsX1_append : List Cond := .code yX1_append cX1_append 6 none :: ([.fieldLink RX1 9 "StateKeeper$InputRecord" "steps" "[I", .fieldLink RX1 15 "StateKeeper$InputRecord" "targets" "[I", .fieldLink RX1 18 "StateKeeper$InputRecord" "ways" "[I", .fieldLink RX1 21 "StateKeeper$InputRecord" "numbers" "[F", .fieldLink RX1 25 "StateKeeper$InputRecord" "size" "I", .methodLink RX1 29 yX1_sizeBelow, .instanceMethod yX1_sizeBelow, .selects RX1 yX1_sizeBelow yX1_sizeBelow, .initialized RX1, .code yX1_sizeBelow cX1_sizeBelow 6 (some .int), .methodLink RX1 33 yX1_moveRest, .instanceMethod yX1_moveRest, .selects RX1 yX1_moveRest yX1_moveRest, .code yX1_moveRest cX1_moveRest 4 none, .methodLink RX1 37 arraycopyName, .native arraycopyName, .static arraycopyName, .initialized "java/lang/System"] ++ wsX10)
def wsX1_dropBelow : List Cond := .code yX1_dropBelow cX1_dropBelow 3 none :: ([.fieldLink RX1 25 "StateKeeper$InputRecord" "size" "I", .methodLink RX1 29 yX1_sizeBelow, .instanceMethod yX1_sizeBelow, .selects RX1 yX1_sizeBelow yX1_sizeBelow, .initialized RX1, .code yX1_sizeBelow cX1_sizeBelow 6 (some .int), .fieldLink RX1 9 "StateKeeper$InputRecord" "steps" "[I", .methodLink RX1 33 yX1_moveRest, .instanceMethod yX1_moveRest, .selects RX1 yX1_moveRest yX1_moveRest, .code yX1_moveRest cX1_moveRest 4 none, .methodLink RX1 37 arraycopyName, .native arraycopyName, .static arraycopyName, .initialized "java/lang/System", .fieldLink RX1 15 "StateKeeper$InputRecord" "targets" "[I", .fieldLink RX1 18 "StateKeeper$InputRecord" "ways" "[I", .fieldLink RX1 21 "StateKeeper$InputRecord" "numbers" "[F"] ++ wsX10)
def wsX1_dropFrom : List Cond := .code yX1_dropFrom cX1_dropFrom 3 (some .int) :: ([.fieldLink RX1 25 "StateKeeper$InputRecord" "size" "I", .methodLink RX1 29 yX1_sizeBelow, .instanceMethod yX1_sizeBelow, .selects RX1 yX1_sizeBelow yX1_sizeBelow, .initialized RX1, .code yX1_sizeBelow cX1_sizeBelow 6 (some .int), .fieldLink RX1 9 "StateKeeper$InputRecord" "steps" "[I"] ++ wsX10)
def wsX1_changed : List Cond := .code yX1_changed cX1_changed 3 (some .float) :: ([])
def wsX1_putIn : List Cond := .code yX1_putIn cX1_putIn 6 none :: ([.fieldLink RX1 15 "StateKeeper$InputRecord" "targets" "[I", .fieldLink RX1 18 "StateKeeper$InputRecord" "ways" "[I", .fieldLink RX1 21 "StateKeeper$InputRecord" "numbers" "[F", .methodLink RX1 29 yX1_sizeBelow, .instanceMethod yX1_sizeBelow, .selects RX1 yX1_sizeBelow yX1_sizeBelow, .initialized RX1, .code yX1_sizeBelow cX1_sizeBelow 6 (some .int), .fieldLink RX1 25 "StateKeeper$InputRecord" "size" "I", .fieldLink RX1 9 "StateKeeper$InputRecord" "steps" "[I", .methodLink RX1 43 yX1_changed, .static yX1_changed, .code yX1_changed cX1_changed 3 (some .float), .static yX3_held, .initialized RX3, .code yX3_held cX3_held 1 (some .float), .constantFloat RX3 189 (3347054592), .constantFloat RX3 190 (1199570944)] ++ wsX10)
def wsX2_init : List Cond := .code yX2_init cX2_init 2 none :: ([.methodLink RX2 3 objectInit, .instanceMethod objectInit, .code objectInit ⟨#[0xb1]⟩ 1 none, .arrayClass .int, .fieldLink RX2 9 "StateKeeper$Snapshots" "steps" "[I", .classLink RX2 15 "[[F", .arrayClass .float, .fieldLink RX2 17 "StateKeeper$Snapshots" "rows" "[[F", .fieldLink RX2 20 "StateKeeper$Snapshots" "size" "I"] ++ wsX20)
def wsX2_slot : List Cond := .code yX2_slot cX2_slot 2 (some .int) :: ([.fieldLink RX2 24 "StateKeeper$Snapshots" "first" "I"] ++ wsX20)
def wsX2_stepOf : List Cond := .code yX2_stepOf cX2_stepOf 2 (some .int) :: ([.fieldLink RX2 9 "StateKeeper$Snapshots" "steps" "[I", .methodLink RX2 27 yX2_slot, .instanceMethod yX2_slot, .selects RX2 yX2_slot yX2_slot, .initialized RX2, .code yX2_slot cX2_slot 2 (some .int), .fieldLink RX2 24 "StateKeeper$Snapshots" "first" "I"] ++ wsX20)
def wsX2_row : List Cond := .code yX2_row cX2_row 2 (some (.array .float)) :: ([.fieldLink RX2 17 "StateKeeper$Snapshots" "rows" "[[F", .methodLink RX2 27 yX2_slot, .instanceMethod yX2_slot, .selects RX2 yX2_slot yX2_slot, .initialized RX2, .code yX2_slot cX2_slot 2 (some .int), .fieldLink RX2 24 "StateKeeper$Snapshots" "first" "I"] ++ wsX20)
def wsX2_highestNotAbove : List Cond := .code yX2_highestNotAbove cX2_highestNotAbove 3 (some .int) :: ([.fieldLink RX2 20 "StateKeeper$Snapshots" "size" "I", .methodLink RX2 34 yX2_stepOf, .instanceMethod yX2_stepOf, .selects RX2 yX2_stepOf yX2_stepOf, .initialized RX2, .code yX2_stepOf cX2_stepOf 2 (some .int), .fieldLink RX2 9 "StateKeeper$Snapshots" "steps" "[I", .methodLink RX2 27 yX2_slot, .instanceMethod yX2_slot, .selects RX2 yX2_slot yX2_slot, .code yX2_slot cX2_slot 2 (some .int), .fieldLink RX2 24 "StateKeeper$Snapshots" "first" "I"] ++ wsX20)
def wsX2_find : List Cond := .code yX2_find cX2_find 3 (some .int) :: ([.methodLink RX2 31 yX2_highestNotAbove, .instanceMethod yX2_highestNotAbove, .selects RX2 yX2_highestNotAbove yX2_highestNotAbove, .initialized RX2, .code yX2_highestNotAbove cX2_highestNotAbove 3 (some .int), .fieldLink RX2 20 "StateKeeper$Snapshots" "size" "I", .methodLink RX2 34 yX2_stepOf, .instanceMethod yX2_stepOf, .selects RX2 yX2_stepOf yX2_stepOf, .code yX2_stepOf cX2_stepOf 2 (some .int), .fieldLink RX2 9 "StateKeeper$Snapshots" "steps" "[I", .methodLink RX2 27 yX2_slot, .instanceMethod yX2_slot, .selects RX2 yX2_slot yX2_slot, .code yX2_slot cX2_slot 2 (some .int), .fieldLink RX2 24 "StateKeeper$Snapshots" "first" "I"] ++ wsX20)
def wsX2_take : List Cond := .code yX2_take cX2_take 6 (some .boolean) :: ([.fieldLink RX2 20 "StateKeeper$Snapshots" "size" "I", .fieldLink RX2 24 "StateKeeper$Snapshots" "first" "I", .fieldLink RX2 9 "StateKeeper$Snapshots" "steps" "[I", .fieldLink RX2 17 "StateKeeper$Snapshots" "rows" "[[F", .methodLink RX2 37 arraycopyName, .native arraycopyName, .static arraycopyName, .initialized "java/lang/System", .methodLink RX2 34 yX2_stepOf, .instanceMethod yX2_stepOf, .selects RX2 yX2_stepOf yX2_stepOf, .initialized RX2, .code yX2_stepOf cX2_stepOf 2 (some .int), .methodLink RX2 27 yX2_slot, .instanceMethod yX2_slot, .selects RX2 yX2_slot yX2_slot, .code yX2_slot cX2_slot 2 (some .int)] ++ wsX20)
def wsX2_dropBehind : List Cond := .code yX2_dropBehind cX2_dropBehind 3 (some .int) :: ([.fieldLink RX2 20 "StateKeeper$Snapshots" "size" "I"] ++ wsX20)
def wsX3_init_r1 : List Cond := [Cond.methodLink RX3 1 objectInit, Cond.instanceMethod objectInit, Cond.code objectInit ⟨#[0xb1]⟩ 1 none, Cond.arrayClass .float, Cond.fieldLink RX3 9 "StateKeeper" "cells" "[F", Cond.classLink RX3 13 RX0, Cond.instantiable RX0 4, Cond.initialized RX0, Cond.fieldLink RX3 16 "StateKeeper" "driftList" "LStateKeeper$Drifts;", Cond.classLink RX3 20 RX1, Cond.instantiable RX1 5, Cond.initialized RX1, Cond.fieldLink RX3 23 "StateKeeper" "inputRecord" "LStateKeeper$InputRecord;", Cond.classLink RX3 27 RX2, Cond.instantiable RX2 4, Cond.initialized RX2, Cond.fieldLink RX3 32 "StateKeeper" "snapshots" "LStateKeeper$Snapshots;", Cond.instanceMethod yX0_init, Cond.code yX0_init cX0_init 1 none, Cond.methodLink RX0 3 objectInit, Cond.arrayClass .int, Cond.fieldLink RX0 9 "StateKeeper$Drifts" "sources" "[I", Cond.fieldLink RX0 15 "StateKeeper$Drifts" "targets" "[I", Cond.fieldLink RX0 18 "StateKeeper$Drifts" "factors" "[F"]
def wsX3_init_r2 : List Cond := [Cond.instanceMethod yX1_init, Cond.code yX1_init cX1_init 1 none, Cond.methodLink RX1 3 objectInit, Cond.fieldLink RX1 9 "StateKeeper$InputRecord" "steps" "[I", Cond.fieldLink RX1 15 "StateKeeper$InputRecord" "targets" "[I", Cond.fieldLink RX1 18 "StateKeeper$InputRecord" "ways" "[I", Cond.fieldLink RX1 21 "StateKeeper$InputRecord" "numbers" "[F", Cond.instanceMethod yX2_init, Cond.code yX2_init cX2_init 2 none, Cond.methodLink RX2 3 objectInit, Cond.fieldLink RX2 9 "StateKeeper$Snapshots" "steps" "[I", Cond.classLink RX2 15 "[[F", Cond.fieldLink RX2 17 "StateKeeper$Snapshots" "rows" "[[F", Cond.fieldLink RX2 20 "StateKeeper$Snapshots" "size" "I"]
def wsX3_init : List Cond := .code yX3_init cX3_init 3 none :: ((wsX3_init_r1 ++ wsX3_init_r2) ++ wsX30 ++ wsX00 ++ wsX10 ++ wsX20)
def wsX3_needCell : List Cond := .code yX3_needCell cX3_needCell 2 none :: ([.classLink RX3 126 "java/lang/IndexOutOfBoundsException", .initialized "java/lang/IndexOutOfBoundsException", .fieldLink RX3 9 "StateKeeper" "cells" "[F"] ++ wsX30 ++ (vx_atS RX3 130 "java/lang/IndexOutOfBoundsException" ["java/lang/RuntimeException", "java/lang/Exception"]).filter goodWord)
def wsX3_drift_r1 : List Cond := [Cond.classLink RX3 41 "java/lang/IllegalArgumentException", Cond.initialized "java/lang/IllegalArgumentException", Cond.classLink RX3 52 "java/lang/IllegalStateException", Cond.initialized "java/lang/IllegalStateException", Cond.constantFloat RX3 39 (3229614080), Cond.constantFloat RX3 40 (1082130432), Cond.fieldLink RX3 16 "StateKeeper" "driftList" "LStateKeeper$Drifts;", Cond.fieldLink RX3 57 "StateKeeper" "present" "I", Cond.fieldLink RX3 23 "StateKeeper" "inputRecord" "LStateKeeper$InputRecord;", Cond.methodLink RX3 36 yX3_needCell, Cond.instanceMethod yX3_needCell, Cond.selects RX3 yX3_needCell yX3_needCell, Cond.initialized RX3, Cond.code yX3_needCell cX3_needCell 2 none, Cond.classLink RX3 126 "java/lang/IndexOutOfBoundsException", Cond.initialized "java/lang/IndexOutOfBoundsException", Cond.fieldLink RX3 9 "StateKeeper" "cells" "[F", Cond.instanceMethod yX0_append, Cond.initialized RX0, Cond.selects RX0 yX0_append yX0_append, Cond.code yX0_append cX0_append 4 none, Cond.fieldLink RX0 9 "StateKeeper$Drifts" "sources" "[I", Cond.fieldLink RX0 22 "StateKeeper$Drifts" "size" "I", Cond.fieldLink RX0 15 "StateKeeper$Drifts" "targets" "[I"]
def wsX3_drift_r2 : List Cond := [Cond.fieldLink RX0 18 "StateKeeper$Drifts" "factors" "[F"]
def wsX3_drift : List Cond := .code yX3_drift cX3_drift 4 (some .int) :: ((wsX3_drift_r1 ++ wsX3_drift_r2) ++ wsX30 ++ wsX00 ++ wsX10 ++ (vx_atS RX3 45 "java/lang/IllegalArgumentException" ["java/lang/RuntimeException", "java/lang/Exception"]).filter goodWord ++ (vx_atS RX3 56 "java/lang/IllegalStateException" ["java/lang/RuntimeException", "java/lang/Exception"]).filter goodWord ++ (vx_atS RX3 130 "java/lang/IndexOutOfBoundsException" ["java/lang/RuntimeException", "java/lang/Exception"]).filter goodWord)
def wsX3_every : List Cond := .code yX3_every cX3_every 3 (some .int) :: ([.classLink RX3 41 "java/lang/IllegalArgumentException", .initialized "java/lang/IllegalArgumentException", .fieldLink RX3 69 "StateKeeper" "interval" "I"] ++ wsX30 ++ (vx_atS RX3 45 "java/lang/IllegalArgumentException" ["java/lang/RuntimeException", "java/lang/Exception"]).filter goodWord)
def wsX3_needWayAndNumber : List Cond := .code yX3_needWayAndNumber cX3_needWayAndNumber 2 none :: ([.classLink RX3 41 "java/lang/IllegalArgumentException", .initialized "java/lang/IllegalArgumentException", .constantFloat RX3 189 (3347054592), .constantFloat RX3 190 (1199570944)] ++ (vx_atS RX3 45 "java/lang/IllegalArgumentException" ["java/lang/RuntimeException", "java/lang/Exception"]).filter goodWord)
def wsX3_needRoom : List Cond := .code yX3_needRoom cX3_needRoom 2 none :: ([.classLink RX3 52 "java/lang/IllegalStateException", .initialized "java/lang/IllegalStateException", .fieldLink RX3 23 "StateKeeper" "inputRecord" "LStateKeeper$InputRecord;"] ++ wsX30 ++ wsX10 ++ (vx_atS RX3 56 "java/lang/IllegalStateException" ["java/lang/RuntimeException", "java/lang/Exception"]).filter goodWord)
def wsX3_input_r1 : List Cond := [Cond.fieldLink RX3 23 "StateKeeper" "inputRecord" "LStateKeeper$InputRecord;", Cond.fieldLink RX3 57 "StateKeeper" "present" "I", Cond.methodLink RX3 36 yX3_needCell, Cond.instanceMethod yX3_needCell, Cond.selects RX3 yX3_needCell yX3_needCell, Cond.initialized RX3, Cond.code yX3_needCell cX3_needCell 2 none, Cond.classLink RX3 126 "java/lang/IndexOutOfBoundsException", Cond.initialized "java/lang/IndexOutOfBoundsException", Cond.fieldLink RX3 9 "StateKeeper" "cells" "[F", Cond.methodLink RX3 72 yX3_needWayAndNumber, Cond.static yX3_needWayAndNumber, Cond.code yX3_needWayAndNumber cX3_needWayAndNumber 2 none, Cond.classLink RX3 41 "java/lang/IllegalArgumentException", Cond.initialized "java/lang/IllegalArgumentException", Cond.constantFloat RX3 189 (3347054592), Cond.constantFloat RX3 190 (1199570944), Cond.methodLink RX3 76 yX3_needRoom, Cond.instanceMethod yX3_needRoom, Cond.selects RX3 yX3_needRoom yX3_needRoom, Cond.code yX3_needRoom cX3_needRoom 2 none, Cond.classLink RX3 52 "java/lang/IllegalStateException", Cond.initialized "java/lang/IllegalStateException", Cond.instanceMethod yX1_append]
def wsX3_input_r2 : List Cond := [Cond.initialized RX1, Cond.selects RX1 yX1_append yX1_append, Cond.code yX1_append cX1_append 6 none, Cond.fieldLink RX1 9 "StateKeeper$InputRecord" "steps" "[I", Cond.fieldLink RX1 15 "StateKeeper$InputRecord" "targets" "[I", Cond.fieldLink RX1 18 "StateKeeper$InputRecord" "ways" "[I", Cond.fieldLink RX1 21 "StateKeeper$InputRecord" "numbers" "[F", Cond.fieldLink RX1 25 "StateKeeper$InputRecord" "size" "I", Cond.methodLink RX1 29 yX1_sizeBelow, Cond.instanceMethod yX1_sizeBelow, Cond.selects RX1 yX1_sizeBelow yX1_sizeBelow, Cond.code yX1_sizeBelow cX1_sizeBelow 6 (some .int), Cond.methodLink RX1 33 yX1_moveRest, Cond.instanceMethod yX1_moveRest, Cond.selects RX1 yX1_moveRest yX1_moveRest, Cond.code yX1_moveRest cX1_moveRest 4 none, Cond.methodLink RX1 37 arraycopyName, Cond.native arraycopyName, Cond.static arraycopyName, Cond.initialized "java/lang/System", Cond.instanceMethod yX1_sizeOf, Cond.selects RX1 yX1_sizeOf yX1_sizeOf, Cond.code yX1_sizeOf cX1_sizeOf 2 (some .int)]
def wsX3_input : List Cond := .code yX3_input cX3_input 4 (some .int) :: ((wsX3_input_r1 ++ wsX3_input_r2) ++ wsX30 ++ wsX10 ++ (vx_atS RX3 130 "java/lang/IndexOutOfBoundsException" ["java/lang/RuntimeException", "java/lang/Exception"]).filter goodWord ++ (vx_atS RX3 45 "java/lang/IllegalArgumentException" ["java/lang/RuntimeException", "java/lang/Exception"]).filter goodWord ++ (vx_atS RX3 56 "java/lang/IllegalStateException" ["java/lang/RuntimeException", "java/lang/Exception"]).filter goodWord)
def wsX3_needLastCell : List Cond := .code yX3_needLastCell cX3_needLastCell 6 none :: ([.classLink RX3 126 "java/lang/IndexOutOfBoundsException", .initialized "java/lang/IndexOutOfBoundsException", .fieldLink RX3 9 "StateKeeper" "cells" "[F"] ++ wsX30 ++ (vx_atS RX3 130 "java/lang/IndexOutOfBoundsException" ["java/lang/RuntimeException", "java/lang/Exception"]).filter goodWord)
def wsX3_inputs_r1 : List Cond := [Cond.classLink RX3 41 "java/lang/IllegalArgumentException", Cond.initialized "java/lang/IllegalArgumentException", Cond.fieldLink RX3 23 "StateKeeper" "inputRecord" "LStateKeeper$InputRecord;", Cond.fieldLink RX3 57 "StateKeeper" "present" "I", Cond.methodLink RX3 36 yX3_needCell, Cond.instanceMethod yX3_needCell, Cond.selects RX3 yX3_needCell yX3_needCell, Cond.initialized RX3, Cond.code yX3_needCell cX3_needCell 2 none, Cond.classLink RX3 126 "java/lang/IndexOutOfBoundsException", Cond.initialized "java/lang/IndexOutOfBoundsException", Cond.fieldLink RX3 9 "StateKeeper" "cells" "[F", Cond.methodLink RX3 88 yX3_needLastCell, Cond.instanceMethod yX3_needLastCell, Cond.selects RX3 yX3_needLastCell yX3_needLastCell, Cond.code yX3_needLastCell cX3_needLastCell 6 none, Cond.methodLink RX3 72 yX3_needWayAndNumber, Cond.static yX3_needWayAndNumber, Cond.code yX3_needWayAndNumber cX3_needWayAndNumber 2 none, Cond.constantFloat RX3 189 (3347054592), Cond.constantFloat RX3 190 (1199570944), Cond.methodLink RX3 76 yX3_needRoom, Cond.instanceMethod yX3_needRoom, Cond.selects RX3 yX3_needRoom yX3_needRoom]
def wsX3_inputs_r2 : List Cond := [Cond.code yX3_needRoom cX3_needRoom 2 none, Cond.classLink RX3 52 "java/lang/IllegalStateException", Cond.initialized "java/lang/IllegalStateException", Cond.instanceMethod yX1_append, Cond.initialized RX1, Cond.selects RX1 yX1_append yX1_append, Cond.code yX1_append cX1_append 6 none, Cond.fieldLink RX1 9 "StateKeeper$InputRecord" "steps" "[I", Cond.fieldLink RX1 15 "StateKeeper$InputRecord" "targets" "[I", Cond.fieldLink RX1 18 "StateKeeper$InputRecord" "ways" "[I", Cond.fieldLink RX1 21 "StateKeeper$InputRecord" "numbers" "[F", Cond.fieldLink RX1 25 "StateKeeper$InputRecord" "size" "I", Cond.methodLink RX1 29 yX1_sizeBelow, Cond.instanceMethod yX1_sizeBelow, Cond.selects RX1 yX1_sizeBelow yX1_sizeBelow, Cond.code yX1_sizeBelow cX1_sizeBelow 6 (some .int), Cond.methodLink RX1 33 yX1_moveRest, Cond.instanceMethod yX1_moveRest, Cond.selects RX1 yX1_moveRest yX1_moveRest, Cond.code yX1_moveRest cX1_moveRest 4 none, Cond.methodLink RX1 37 arraycopyName, Cond.native arraycopyName, Cond.static arraycopyName, Cond.initialized "java/lang/System"]
def wsX3_inputs_r3 : List Cond := [Cond.instanceMethod yX1_sizeOf, Cond.selects RX1 yX1_sizeOf yX1_sizeOf, Cond.code yX1_sizeOf cX1_sizeOf 2 (some .int)]
def wsX3_inputs : List Cond := .code yX3_inputs cX3_inputs 7 (some .int) :: ((wsX3_inputs_r1 ++ (wsX3_inputs_r2 ++ wsX3_inputs_r3)) ++ wsX30 ++ wsX10 ++ (vx_atS RX3 45 "java/lang/IllegalArgumentException" ["java/lang/RuntimeException", "java/lang/Exception"]).filter goodWord ++ (vx_atS RX3 130 "java/lang/IndexOutOfBoundsException" ["java/lang/RuntimeException", "java/lang/Exception"]).filter goodWord ++ (vx_atS RX3 56 "java/lang/IllegalStateException" ["java/lang/RuntimeException", "java/lang/Exception"]).filter goodWord)
def wsX3_keepPresent_r1 : List Cond := [Cond.fieldLink RX3 32 "StateKeeper" "snapshots" "LStateKeeper$Snapshots;", Cond.fieldLink RX3 57 "StateKeeper" "present" "I", Cond.fieldLink RX3 9 "StateKeeper" "cells" "[F", Cond.fieldLink RX3 23 "StateKeeper" "inputRecord" "LStateKeeper$InputRecord;", Cond.instanceMethod yX2_take, Cond.initialized RX2, Cond.selects RX2 yX2_take yX2_take, Cond.code yX2_take cX2_take 6 (some .boolean), Cond.fieldLink RX2 20 "StateKeeper$Snapshots" "size" "I", Cond.fieldLink RX2 24 "StateKeeper$Snapshots" "first" "I", Cond.fieldLink RX2 9 "StateKeeper$Snapshots" "steps" "[I", Cond.fieldLink RX2 17 "StateKeeper$Snapshots" "rows" "[[F", Cond.methodLink RX2 37 arraycopyName, Cond.native arraycopyName, Cond.static arraycopyName, Cond.initialized "java/lang/System", Cond.methodLink RX2 34 yX2_stepOf, Cond.instanceMethod yX2_stepOf, Cond.selects RX2 yX2_stepOf yX2_stepOf, Cond.code yX2_stepOf cX2_stepOf 2 (some .int), Cond.methodLink RX2 27 yX2_slot, Cond.instanceMethod yX2_slot, Cond.selects RX2 yX2_slot yX2_slot, Cond.code yX2_slot cX2_slot 2 (some .int)]
def wsX3_keepPresent_r2 : List Cond := [Cond.instanceMethod yX1_dropBelow, Cond.initialized RX1, Cond.selects RX1 yX1_dropBelow yX1_dropBelow, Cond.code yX1_dropBelow cX1_dropBelow 3 none, Cond.fieldLink RX1 25 "StateKeeper$InputRecord" "size" "I", Cond.methodLink RX1 29 yX1_sizeBelow, Cond.instanceMethod yX1_sizeBelow, Cond.selects RX1 yX1_sizeBelow yX1_sizeBelow, Cond.code yX1_sizeBelow cX1_sizeBelow 6 (some .int), Cond.fieldLink RX1 9 "StateKeeper$InputRecord" "steps" "[I", Cond.methodLink RX1 33 yX1_moveRest, Cond.instanceMethod yX1_moveRest, Cond.selects RX1 yX1_moveRest yX1_moveRest, Cond.code yX1_moveRest cX1_moveRest 4 none, Cond.methodLink RX1 37 arraycopyName, Cond.fieldLink RX1 15 "StateKeeper$InputRecord" "targets" "[I", Cond.fieldLink RX1 18 "StateKeeper$InputRecord" "ways" "[I", Cond.fieldLink RX1 21 "StateKeeper$InputRecord" "numbers" "[F"]
def wsX3_keepPresent : List Cond := .code yX3_keepPresent cX3_keepPresent 2 none :: ((wsX3_keepPresent_r1 ++ wsX3_keepPresent_r2) ++ wsX30 ++ wsX20 ++ wsX10)
def wsX3_doSteps_r1 : List Cond := [Cond.fieldLink RX3 23 "StateKeeper" "inputRecord" "LStateKeeper$InputRecord;", Cond.fieldLink RX3 57 "StateKeeper" "present" "I", Cond.fieldLink RX3 9 "StateKeeper" "cells" "[F", Cond.fieldLink RX3 16 "StateKeeper" "driftList" "LStateKeeper$Drifts;", Cond.fieldLink RX3 150 "StateKeeper" "stepsDone" "I", Cond.fieldLink RX3 69 "StateKeeper" "interval" "I", Cond.instanceMethod yX1_putIn, Cond.initialized RX1, Cond.selects RX1 yX1_putIn yX1_putIn, Cond.code yX1_putIn cX1_putIn 6 none, Cond.fieldLink RX1 15 "StateKeeper$InputRecord" "targets" "[I", Cond.fieldLink RX1 18 "StateKeeper$InputRecord" "ways" "[I", Cond.fieldLink RX1 21 "StateKeeper$InputRecord" "numbers" "[F", Cond.methodLink RX1 29 yX1_sizeBelow, Cond.instanceMethod yX1_sizeBelow, Cond.selects RX1 yX1_sizeBelow yX1_sizeBelow, Cond.code yX1_sizeBelow cX1_sizeBelow 6 (some .int), Cond.fieldLink RX1 25 "StateKeeper$InputRecord" "size" "I", Cond.fieldLink RX1 9 "StateKeeper$InputRecord" "steps" "[I", Cond.methodLink RX1 43 yX1_changed, Cond.static yX1_changed, Cond.code yX1_changed cX1_changed 3 (some .float), Cond.static yX3_held, Cond.initialized RX3]
def wsX3_doSteps_r2 : List Cond := [Cond.code yX3_held cX3_held 1 (some .float), Cond.constantFloat RX3 189 (3347054592), Cond.constantFloat RX3 190 (1199570944), Cond.instanceMethod yX0_flow, Cond.initialized RX0, Cond.selects RX0 yX0_flow yX0_flow, Cond.code yX0_flow cX0_flow 4 none, Cond.fieldLink RX0 22 "StateKeeper$Drifts" "size" "I", Cond.fieldLink RX0 15 "StateKeeper$Drifts" "targets" "[I", Cond.fieldLink RX0 9 "StateKeeper$Drifts" "sources" "[I", Cond.fieldLink RX0 18 "StateKeeper$Drifts" "factors" "[F", Cond.methodLink RX3 97 yX3_keepPresent, Cond.instanceMethod yX3_keepPresent, Cond.selects RX3 yX3_keepPresent yX3_keepPresent, Cond.code yX3_keepPresent cX3_keepPresent 2 none, Cond.fieldLink RX3 32 "StateKeeper" "snapshots" "LStateKeeper$Snapshots;", Cond.instanceMethod yX2_take, Cond.initialized RX2, Cond.selects RX2 yX2_take yX2_take, Cond.code yX2_take cX2_take 6 (some .boolean), Cond.fieldLink RX2 20 "StateKeeper$Snapshots" "size" "I", Cond.fieldLink RX2 24 "StateKeeper$Snapshots" "first" "I", Cond.fieldLink RX2 9 "StateKeeper$Snapshots" "steps" "[I", Cond.fieldLink RX2 17 "StateKeeper$Snapshots" "rows" "[[F"]
def wsX3_doSteps_r3 : List Cond := [Cond.methodLink RX2 37 arraycopyName, Cond.native arraycopyName, Cond.static arraycopyName, Cond.initialized "java/lang/System", Cond.methodLink RX2 34 yX2_stepOf, Cond.instanceMethod yX2_stepOf, Cond.selects RX2 yX2_stepOf yX2_stepOf, Cond.code yX2_stepOf cX2_stepOf 2 (some .int), Cond.methodLink RX2 27 yX2_slot, Cond.instanceMethod yX2_slot, Cond.selects RX2 yX2_slot yX2_slot, Cond.code yX2_slot cX2_slot 2 (some .int), Cond.instanceMethod yX1_dropBelow, Cond.selects RX1 yX1_dropBelow yX1_dropBelow, Cond.code yX1_dropBelow cX1_dropBelow 3 none, Cond.methodLink RX1 33 yX1_moveRest, Cond.instanceMethod yX1_moveRest, Cond.selects RX1 yX1_moveRest yX1_moveRest, Cond.code yX1_moveRest cX1_moveRest 4 none, Cond.methodLink RX1 37 arraycopyName]
def wsX3_doSteps : List Cond := .code yX3_doSteps cX3_doSteps 3 none :: ((wsX3_doSteps_r1 ++ (wsX3_doSteps_r2 ++ wsX3_doSteps_r3)) ++ wsX30 ++ wsX10 ++ wsX00 ++ wsX20)
def wsX3_step_r1 : List Cond := [Cond.classLink RX3 41 "java/lang/IllegalArgumentException", Cond.initialized "java/lang/IllegalArgumentException", Cond.fieldLink RX3 57 "StateKeeper" "present" "I", Cond.methodLink RX3 94 yX3_doSteps, Cond.instanceMethod yX3_doSteps, Cond.selects RX3 yX3_doSteps yX3_doSteps, Cond.initialized RX3, Cond.code yX3_doSteps cX3_doSteps 3 none, Cond.fieldLink RX3 23 "StateKeeper" "inputRecord" "LStateKeeper$InputRecord;", Cond.fieldLink RX3 9 "StateKeeper" "cells" "[F", Cond.fieldLink RX3 16 "StateKeeper" "driftList" "LStateKeeper$Drifts;", Cond.fieldLink RX3 150 "StateKeeper" "stepsDone" "I", Cond.fieldLink RX3 69 "StateKeeper" "interval" "I", Cond.instanceMethod yX1_putIn, Cond.initialized RX1, Cond.selects RX1 yX1_putIn yX1_putIn, Cond.code yX1_putIn cX1_putIn 6 none, Cond.fieldLink RX1 15 "StateKeeper$InputRecord" "targets" "[I", Cond.fieldLink RX1 18 "StateKeeper$InputRecord" "ways" "[I", Cond.fieldLink RX1 21 "StateKeeper$InputRecord" "numbers" "[F", Cond.methodLink RX1 29 yX1_sizeBelow, Cond.instanceMethod yX1_sizeBelow, Cond.selects RX1 yX1_sizeBelow yX1_sizeBelow, Cond.code yX1_sizeBelow cX1_sizeBelow 6 (some .int)]
def wsX3_step_r2 : List Cond := [Cond.fieldLink RX1 25 "StateKeeper$InputRecord" "size" "I", Cond.fieldLink RX1 9 "StateKeeper$InputRecord" "steps" "[I", Cond.methodLink RX1 43 yX1_changed, Cond.static yX1_changed, Cond.code yX1_changed cX1_changed 3 (some .float), Cond.static yX3_held, Cond.code yX3_held cX3_held 1 (some .float), Cond.constantFloat RX3 189 (3347054592), Cond.constantFloat RX3 190 (1199570944), Cond.instanceMethod yX0_flow, Cond.initialized RX0, Cond.selects RX0 yX0_flow yX0_flow, Cond.code yX0_flow cX0_flow 4 none, Cond.fieldLink RX0 22 "StateKeeper$Drifts" "size" "I", Cond.fieldLink RX0 15 "StateKeeper$Drifts" "targets" "[I", Cond.fieldLink RX0 9 "StateKeeper$Drifts" "sources" "[I", Cond.fieldLink RX0 18 "StateKeeper$Drifts" "factors" "[F", Cond.methodLink RX3 97 yX3_keepPresent, Cond.instanceMethod yX3_keepPresent, Cond.selects RX3 yX3_keepPresent yX3_keepPresent, Cond.code yX3_keepPresent cX3_keepPresent 2 none, Cond.fieldLink RX3 32 "StateKeeper" "snapshots" "LStateKeeper$Snapshots;", Cond.instanceMethod yX2_take, Cond.initialized RX2]
def wsX3_step_r3 : List Cond := [Cond.selects RX2 yX2_take yX2_take, Cond.code yX2_take cX2_take 6 (some .boolean), Cond.fieldLink RX2 20 "StateKeeper$Snapshots" "size" "I", Cond.fieldLink RX2 24 "StateKeeper$Snapshots" "first" "I", Cond.fieldLink RX2 9 "StateKeeper$Snapshots" "steps" "[I", Cond.fieldLink RX2 17 "StateKeeper$Snapshots" "rows" "[[F", Cond.methodLink RX2 37 arraycopyName, Cond.native arraycopyName, Cond.static arraycopyName, Cond.initialized "java/lang/System", Cond.methodLink RX2 34 yX2_stepOf, Cond.instanceMethod yX2_stepOf, Cond.selects RX2 yX2_stepOf yX2_stepOf, Cond.code yX2_stepOf cX2_stepOf 2 (some .int), Cond.methodLink RX2 27 yX2_slot, Cond.instanceMethod yX2_slot, Cond.selects RX2 yX2_slot yX2_slot, Cond.code yX2_slot cX2_slot 2 (some .int), Cond.instanceMethod yX1_dropBelow, Cond.selects RX1 yX1_dropBelow yX1_dropBelow, Cond.code yX1_dropBelow cX1_dropBelow 3 none, Cond.methodLink RX1 33 yX1_moveRest, Cond.instanceMethod yX1_moveRest, Cond.selects RX1 yX1_moveRest yX1_moveRest]
def wsX3_step_r4 : List Cond := [Cond.code yX1_moveRest cX1_moveRest 4 none, Cond.methodLink RX1 37 arraycopyName]
def wsX3_step : List Cond := .code yX3_step cX3_step 2 (some .int) :: ((wsX3_step_r1 ++ (wsX3_step_r2 ++ (wsX3_step_r3 ++ wsX3_step_r4))) ++ wsX30 ++ wsX10 ++ wsX00 ++ wsX20 ++ (vx_atS RX3 45 "java/lang/IllegalArgumentException" ["java/lang/RuntimeException", "java/lang/Exception"]).filter goodWord)
def wsX3_keep_r1 : List Cond := [Cond.fieldLink RX3 32 "StateKeeper" "snapshots" "LStateKeeper$Snapshots;", Cond.methodLink RX3 97 yX3_keepPresent, Cond.instanceMethod yX3_keepPresent, Cond.selects RX3 yX3_keepPresent yX3_keepPresent, Cond.initialized RX3, Cond.code yX3_keepPresent cX3_keepPresent 2 none, Cond.fieldLink RX3 57 "StateKeeper" "present" "I", Cond.fieldLink RX3 9 "StateKeeper" "cells" "[F", Cond.fieldLink RX3 23 "StateKeeper" "inputRecord" "LStateKeeper$InputRecord;", Cond.instanceMethod yX2_take, Cond.initialized RX2, Cond.selects RX2 yX2_take yX2_take, Cond.code yX2_take cX2_take 6 (some .boolean), Cond.fieldLink RX2 20 "StateKeeper$Snapshots" "size" "I", Cond.fieldLink RX2 24 "StateKeeper$Snapshots" "first" "I", Cond.fieldLink RX2 9 "StateKeeper$Snapshots" "steps" "[I", Cond.fieldLink RX2 17 "StateKeeper$Snapshots" "rows" "[[F", Cond.methodLink RX2 37 arraycopyName, Cond.native arraycopyName, Cond.static arraycopyName, Cond.initialized "java/lang/System", Cond.methodLink RX2 34 yX2_stepOf, Cond.instanceMethod yX2_stepOf, Cond.selects RX2 yX2_stepOf yX2_stepOf]
def wsX3_keep_r2 : List Cond := [Cond.code yX2_stepOf cX2_stepOf 2 (some .int), Cond.methodLink RX2 27 yX2_slot, Cond.instanceMethod yX2_slot, Cond.selects RX2 yX2_slot yX2_slot, Cond.code yX2_slot cX2_slot 2 (some .int), Cond.instanceMethod yX1_dropBelow, Cond.initialized RX1, Cond.selects RX1 yX1_dropBelow yX1_dropBelow, Cond.code yX1_dropBelow cX1_dropBelow 3 none, Cond.fieldLink RX1 25 "StateKeeper$InputRecord" "size" "I", Cond.methodLink RX1 29 yX1_sizeBelow, Cond.instanceMethod yX1_sizeBelow, Cond.selects RX1 yX1_sizeBelow yX1_sizeBelow, Cond.code yX1_sizeBelow cX1_sizeBelow 6 (some .int), Cond.fieldLink RX1 9 "StateKeeper$InputRecord" "steps" "[I", Cond.methodLink RX1 33 yX1_moveRest, Cond.instanceMethod yX1_moveRest, Cond.selects RX1 yX1_moveRest yX1_moveRest, Cond.code yX1_moveRest cX1_moveRest 4 none, Cond.methodLink RX1 37 arraycopyName, Cond.fieldLink RX1 15 "StateKeeper$InputRecord" "targets" "[I", Cond.fieldLink RX1 18 "StateKeeper$InputRecord" "ways" "[I", Cond.fieldLink RX1 21 "StateKeeper$InputRecord" "numbers" "[F"]
def wsX3_keep : List Cond := .code yX3_keep cX3_keep 1 (some .int) :: ((wsX3_keep_r1 ++ wsX3_keep_r2) ++ wsX30 ++ wsX20 ++ wsX10)
def wsX3_neededSnapshot : List Cond := .code yX3_neededSnapshot cX3_neededSnapshot 3 (some .int) :: ([.classLink RX3 126 "java/lang/IndexOutOfBoundsException", .initialized "java/lang/IndexOutOfBoundsException", .fieldLink RX3 32 "StateKeeper" "snapshots" "LStateKeeper$Snapshots;", .instanceMethod yX2_find, .initialized RX2, .selects RX2 yX2_find yX2_find, .code yX2_find cX2_find 3 (some .int), .methodLink RX2 31 yX2_highestNotAbove, .instanceMethod yX2_highestNotAbove, .selects RX2 yX2_highestNotAbove yX2_highestNotAbove, .code yX2_highestNotAbove cX2_highestNotAbove 3 (some .int), .fieldLink RX2 20 "StateKeeper$Snapshots" "size" "I", .methodLink RX2 34 yX2_stepOf, .instanceMethod yX2_stepOf, .selects RX2 yX2_stepOf yX2_stepOf, .code yX2_stepOf cX2_stepOf 2 (some .int), .fieldLink RX2 9 "StateKeeper$Snapshots" "steps" "[I", .methodLink RX2 27 yX2_slot, .instanceMethod yX2_slot, .selects RX2 yX2_slot yX2_slot, .code yX2_slot cX2_slot 2 (some .int), .fieldLink RX2 24 "StateKeeper$Snapshots" "first" "I"] ++ wsX30 ++ wsX20 ++ (vx_atS RX3 130 "java/lang/IndexOutOfBoundsException" ["java/lang/RuntimeException", "java/lang/Exception"]).filter goodWord)
def wsX3_goBackTo_r1 : List Cond := [Cond.fieldLink RX3 32 "StateKeeper" "snapshots" "LStateKeeper$Snapshots;", Cond.fieldLink RX3 9 "StateKeeper" "cells" "[F", Cond.methodLink RX3 174 arraycopyName, Cond.native arraycopyName, Cond.static arraycopyName, Cond.initialized "java/lang/System", Cond.fieldLink RX3 57 "StateKeeper" "present" "I", Cond.instanceMethod yX2_row, Cond.initialized RX2, Cond.selects RX2 yX2_row yX2_row, Cond.code yX2_row cX2_row 2 (some (.array .float)), Cond.fieldLink RX2 17 "StateKeeper$Snapshots" "rows" "[[F", Cond.methodLink RX2 27 yX2_slot, Cond.instanceMethod yX2_slot, Cond.selects RX2 yX2_slot yX2_slot, Cond.code yX2_slot cX2_slot 2 (some .int), Cond.fieldLink RX2 24 "StateKeeper$Snapshots" "first" "I", Cond.instanceMethod yX2_stepOf, Cond.selects RX2 yX2_stepOf yX2_stepOf, Cond.code yX2_stepOf cX2_stepOf 2 (some .int), Cond.fieldLink RX2 9 "StateKeeper$Snapshots" "steps" "[I", Cond.instanceMethod yX2_dropBehind, Cond.selects RX2 yX2_dropBehind yX2_dropBehind, Cond.code yX2_dropBehind cX2_dropBehind 3 (some .int)]
def wsX3_goBackTo_r2 : List Cond := [Cond.fieldLink RX2 20 "StateKeeper$Snapshots" "size" "I"]
def wsX3_goBackTo : List Cond := .code yX3_goBackTo cX3_goBackTo 2 (some .int) :: ((wsX3_goBackTo_r1 ++ wsX3_goBackTo_r2) ++ wsX30 ++ wsX20)
def wsX3_back_r1 : List Cond := [Cond.methodLink RX3 101 yX3_neededSnapshot, Cond.instanceMethod yX3_neededSnapshot, Cond.selects RX3 yX3_neededSnapshot yX3_neededSnapshot, Cond.initialized RX3, Cond.code yX3_neededSnapshot cX3_neededSnapshot 3 (some .int), Cond.classLink RX3 126 "java/lang/IndexOutOfBoundsException", Cond.initialized "java/lang/IndexOutOfBoundsException", Cond.fieldLink RX3 32 "StateKeeper" "snapshots" "LStateKeeper$Snapshots;", Cond.instanceMethod yX2_find, Cond.initialized RX2, Cond.selects RX2 yX2_find yX2_find, Cond.code yX2_find cX2_find 3 (some .int), Cond.methodLink RX2 31 yX2_highestNotAbove, Cond.instanceMethod yX2_highestNotAbove, Cond.selects RX2 yX2_highestNotAbove yX2_highestNotAbove, Cond.code yX2_highestNotAbove cX2_highestNotAbove 3 (some .int), Cond.fieldLink RX2 20 "StateKeeper$Snapshots" "size" "I", Cond.methodLink RX2 34 yX2_stepOf, Cond.instanceMethod yX2_stepOf, Cond.selects RX2 yX2_stepOf yX2_stepOf, Cond.code yX2_stepOf cX2_stepOf 2 (some .int), Cond.fieldLink RX2 9 "StateKeeper$Snapshots" "steps" "[I", Cond.methodLink RX2 27 yX2_slot, Cond.instanceMethod yX2_slot]
def wsX3_back_r2 : List Cond := [Cond.selects RX2 yX2_slot yX2_slot, Cond.code yX2_slot cX2_slot 2 (some .int), Cond.fieldLink RX2 24 "StateKeeper$Snapshots" "first" "I", Cond.methodLink RX3 104 yX3_goBackTo, Cond.instanceMethod yX3_goBackTo, Cond.selects RX3 yX3_goBackTo yX3_goBackTo, Cond.code yX3_goBackTo cX3_goBackTo 2 (some .int), Cond.fieldLink RX3 9 "StateKeeper" "cells" "[F", Cond.methodLink RX3 174 arraycopyName, Cond.native arraycopyName, Cond.static arraycopyName, Cond.initialized "java/lang/System", Cond.fieldLink RX3 57 "StateKeeper" "present" "I", Cond.instanceMethod yX2_row, Cond.selects RX2 yX2_row yX2_row, Cond.code yX2_row cX2_row 2 (some (.array .float)), Cond.fieldLink RX2 17 "StateKeeper$Snapshots" "rows" "[[F", Cond.instanceMethod yX2_dropBehind, Cond.selects RX2 yX2_dropBehind yX2_dropBehind, Cond.code yX2_dropBehind cX2_dropBehind 3 (some .int)]
def wsX3_back : List Cond := .code yX3_back cX3_back 2 (some .int) :: ((wsX3_back_r1 ++ wsX3_back_r2) ++ wsX30 ++ wsX20 ++ (vx_atS RX3 130 "java/lang/IndexOutOfBoundsException" ["java/lang/RuntimeException", "java/lang/Exception"]).filter goodWord)
def wsX3_forget : List Cond := .code yX3_forget cX3_forget 2 (some .int) :: ([.classLink RX3 41 "java/lang/IllegalArgumentException", .initialized "java/lang/IllegalArgumentException", .fieldLink RX3 57 "StateKeeper" "present" "I", .fieldLink RX3 23 "StateKeeper" "inputRecord" "LStateKeeper$InputRecord;", .instanceMethod yX1_dropFrom, .initialized RX1, .selects RX1 yX1_dropFrom yX1_dropFrom, .code yX1_dropFrom cX1_dropFrom 3 (some .int), .fieldLink RX1 25 "StateKeeper$InputRecord" "size" "I", .methodLink RX1 29 yX1_sizeBelow, .instanceMethod yX1_sizeBelow, .selects RX1 yX1_sizeBelow yX1_sizeBelow, .code yX1_sizeBelow cX1_sizeBelow 6 (some .int), .fieldLink RX1 9 "StateKeeper$InputRecord" "steps" "[I"] ++ wsX30 ++ wsX10 ++ (vx_atS RX3 45 "java/lang/IllegalArgumentException" ["java/lang/RuntimeException", "java/lang/Exception"]).filter goodWord)
def wsX3_stepAgainFrom_r1 : List Cond := [Cond.fieldLink RX3 57 "StateKeeper" "present" "I", Cond.methodLink RX3 104 yX3_goBackTo, Cond.instanceMethod yX3_goBackTo, Cond.selects RX3 yX3_goBackTo yX3_goBackTo, Cond.initialized RX3, Cond.code yX3_goBackTo cX3_goBackTo 2 (some .int), Cond.fieldLink RX3 32 "StateKeeper" "snapshots" "LStateKeeper$Snapshots;", Cond.fieldLink RX3 9 "StateKeeper" "cells" "[F", Cond.methodLink RX3 174 arraycopyName, Cond.native arraycopyName, Cond.static arraycopyName, Cond.initialized "java/lang/System", Cond.instanceMethod yX2_row, Cond.initialized RX2, Cond.selects RX2 yX2_row yX2_row, Cond.code yX2_row cX2_row 2 (some (.array .float)), Cond.fieldLink RX2 17 "StateKeeper$Snapshots" "rows" "[[F", Cond.methodLink RX2 27 yX2_slot, Cond.instanceMethod yX2_slot, Cond.selects RX2 yX2_slot yX2_slot, Cond.code yX2_slot cX2_slot 2 (some .int), Cond.fieldLink RX2 24 "StateKeeper$Snapshots" "first" "I", Cond.instanceMethod yX2_stepOf, Cond.selects RX2 yX2_stepOf yX2_stepOf]
def wsX3_stepAgainFrom_r2 : List Cond := [Cond.code yX2_stepOf cX2_stepOf 2 (some .int), Cond.fieldLink RX2 9 "StateKeeper$Snapshots" "steps" "[I", Cond.instanceMethod yX2_dropBehind, Cond.selects RX2 yX2_dropBehind yX2_dropBehind, Cond.code yX2_dropBehind cX2_dropBehind 3 (some .int), Cond.fieldLink RX2 20 "StateKeeper$Snapshots" "size" "I", Cond.methodLink RX3 94 yX3_doSteps, Cond.instanceMethod yX3_doSteps, Cond.selects RX3 yX3_doSteps yX3_doSteps, Cond.code yX3_doSteps cX3_doSteps 3 none, Cond.fieldLink RX3 23 "StateKeeper" "inputRecord" "LStateKeeper$InputRecord;", Cond.fieldLink RX3 16 "StateKeeper" "driftList" "LStateKeeper$Drifts;", Cond.fieldLink RX3 150 "StateKeeper" "stepsDone" "I", Cond.fieldLink RX3 69 "StateKeeper" "interval" "I", Cond.instanceMethod yX1_putIn, Cond.initialized RX1, Cond.selects RX1 yX1_putIn yX1_putIn, Cond.code yX1_putIn cX1_putIn 6 none, Cond.fieldLink RX1 15 "StateKeeper$InputRecord" "targets" "[I", Cond.fieldLink RX1 18 "StateKeeper$InputRecord" "ways" "[I", Cond.fieldLink RX1 21 "StateKeeper$InputRecord" "numbers" "[F", Cond.methodLink RX1 29 yX1_sizeBelow, Cond.instanceMethod yX1_sizeBelow, Cond.selects RX1 yX1_sizeBelow yX1_sizeBelow]
def wsX3_stepAgainFrom_r3 : List Cond := [Cond.code yX1_sizeBelow cX1_sizeBelow 6 (some .int), Cond.fieldLink RX1 25 "StateKeeper$InputRecord" "size" "I", Cond.fieldLink RX1 9 "StateKeeper$InputRecord" "steps" "[I", Cond.methodLink RX1 43 yX1_changed, Cond.static yX1_changed, Cond.code yX1_changed cX1_changed 3 (some .float), Cond.static yX3_held, Cond.code yX3_held cX3_held 1 (some .float), Cond.constantFloat RX3 189 (3347054592), Cond.constantFloat RX3 190 (1199570944), Cond.instanceMethod yX0_flow, Cond.initialized RX0, Cond.selects RX0 yX0_flow yX0_flow, Cond.code yX0_flow cX0_flow 4 none, Cond.fieldLink RX0 22 "StateKeeper$Drifts" "size" "I", Cond.fieldLink RX0 15 "StateKeeper$Drifts" "targets" "[I", Cond.fieldLink RX0 9 "StateKeeper$Drifts" "sources" "[I", Cond.fieldLink RX0 18 "StateKeeper$Drifts" "factors" "[F", Cond.methodLink RX3 97 yX3_keepPresent, Cond.instanceMethod yX3_keepPresent, Cond.selects RX3 yX3_keepPresent yX3_keepPresent, Cond.code yX3_keepPresent cX3_keepPresent 2 none, Cond.instanceMethod yX2_take, Cond.selects RX2 yX2_take yX2_take]
def wsX3_stepAgainFrom_r4 : List Cond := [Cond.code yX2_take cX2_take 6 (some .boolean), Cond.methodLink RX2 37 arraycopyName, Cond.methodLink RX2 34 yX2_stepOf, Cond.instanceMethod yX1_dropBelow, Cond.selects RX1 yX1_dropBelow yX1_dropBelow, Cond.code yX1_dropBelow cX1_dropBelow 3 none, Cond.methodLink RX1 33 yX1_moveRest, Cond.instanceMethod yX1_moveRest, Cond.selects RX1 yX1_moveRest yX1_moveRest, Cond.code yX1_moveRest cX1_moveRest 4 none, Cond.methodLink RX1 37 arraycopyName]
def wsX3_stepAgainFrom : List Cond := .code yX3_stepAgainFrom cX3_stepAgainFrom 4 (some .int) :: ((wsX3_stepAgainFrom_r1 ++ (wsX3_stepAgainFrom_r2 ++ (wsX3_stepAgainFrom_r3 ++ wsX3_stepAgainFrom_r4))) ++ wsX30 ++ wsX20 ++ wsX10 ++ wsX00)
def wsX3_late_r1 : List Cond := [Cond.classLink RX3 41 "java/lang/IllegalArgumentException", Cond.initialized "java/lang/IllegalArgumentException", Cond.classLink RX3 52 "java/lang/IllegalStateException", Cond.initialized "java/lang/IllegalStateException", Cond.fieldLink RX3 57 "StateKeeper" "present" "I", Cond.fieldLink RX3 32 "StateKeeper" "snapshots" "LStateKeeper$Snapshots;", Cond.fieldLink RX3 23 "StateKeeper" "inputRecord" "LStateKeeper$InputRecord;", Cond.methodLink RX3 36 yX3_needCell, Cond.instanceMethod yX3_needCell, Cond.selects RX3 yX3_needCell yX3_needCell, Cond.initialized RX3, Cond.code yX3_needCell cX3_needCell 2 none, Cond.classLink RX3 126 "java/lang/IndexOutOfBoundsException", Cond.initialized "java/lang/IndexOutOfBoundsException", Cond.fieldLink RX3 9 "StateKeeper" "cells" "[F", Cond.methodLink RX3 72 yX3_needWayAndNumber, Cond.static yX3_needWayAndNumber, Cond.code yX3_needWayAndNumber cX3_needWayAndNumber 2 none, Cond.constantFloat RX3 189 (3347054592), Cond.constantFloat RX3 190 (1199570944), Cond.methodLink RX3 76 yX3_needRoom, Cond.instanceMethod yX3_needRoom, Cond.selects RX3 yX3_needRoom yX3_needRoom, Cond.code yX3_needRoom cX3_needRoom 2 none]
end
section
def wsX3_late_r2 : List Cond := [Cond.instanceMethod yX2_highestNotAbove, Cond.initialized RX2, Cond.selects RX2 yX2_highestNotAbove yX2_highestNotAbove, Cond.code yX2_highestNotAbove cX2_highestNotAbove 3 (some .int), Cond.fieldLink RX2 20 "StateKeeper$Snapshots" "size" "I", Cond.methodLink RX2 34 yX2_stepOf, Cond.instanceMethod yX2_stepOf, Cond.selects RX2 yX2_stepOf yX2_stepOf, Cond.code yX2_stepOf cX2_stepOf 2 (some .int), Cond.fieldLink RX2 9 "StateKeeper$Snapshots" "steps" "[I", Cond.methodLink RX2 27 yX2_slot, Cond.instanceMethod yX2_slot, Cond.selects RX2 yX2_slot yX2_slot, Cond.code yX2_slot cX2_slot 2 (some .int), Cond.fieldLink RX2 24 "StateKeeper$Snapshots" "first" "I", Cond.instanceMethod yX1_append, Cond.initialized RX1, Cond.selects RX1 yX1_append yX1_append, Cond.code yX1_append cX1_append 6 none, Cond.fieldLink RX1 9 "StateKeeper$InputRecord" "steps" "[I", Cond.fieldLink RX1 15 "StateKeeper$InputRecord" "targets" "[I", Cond.fieldLink RX1 18 "StateKeeper$InputRecord" "ways" "[I", Cond.fieldLink RX1 21 "StateKeeper$InputRecord" "numbers" "[F", Cond.fieldLink RX1 25 "StateKeeper$InputRecord" "size" "I"]
def wsX3_late_r3 : List Cond := [Cond.methodLink RX1 29 yX1_sizeBelow, Cond.instanceMethod yX1_sizeBelow, Cond.selects RX1 yX1_sizeBelow yX1_sizeBelow, Cond.code yX1_sizeBelow cX1_sizeBelow 6 (some .int), Cond.methodLink RX1 33 yX1_moveRest, Cond.instanceMethod yX1_moveRest, Cond.selects RX1 yX1_moveRest yX1_moveRest, Cond.code yX1_moveRest cX1_moveRest 4 none, Cond.methodLink RX1 37 arraycopyName, Cond.native arraycopyName, Cond.static arraycopyName, Cond.initialized "java/lang/System", Cond.methodLink RX3 119 yX3_stepAgainFrom, Cond.instanceMethod yX3_stepAgainFrom, Cond.selects RX3 yX3_stepAgainFrom yX3_stepAgainFrom, Cond.code yX3_stepAgainFrom cX3_stepAgainFrom 4 (some .int), Cond.methodLink RX3 104 yX3_goBackTo, Cond.instanceMethod yX3_goBackTo, Cond.selects RX3 yX3_goBackTo yX3_goBackTo, Cond.code yX3_goBackTo cX3_goBackTo 2 (some .int), Cond.methodLink RX3 174 arraycopyName, Cond.instanceMethod yX2_row, Cond.selects RX2 yX2_row yX2_row, Cond.code yX2_row cX2_row 2 (some (.array .float))]
def wsX3_late_r4 : List Cond := [Cond.fieldLink RX2 17 "StateKeeper$Snapshots" "rows" "[[F", Cond.instanceMethod yX2_dropBehind, Cond.selects RX2 yX2_dropBehind yX2_dropBehind, Cond.code yX2_dropBehind cX2_dropBehind 3 (some .int), Cond.methodLink RX3 94 yX3_doSteps, Cond.instanceMethod yX3_doSteps, Cond.selects RX3 yX3_doSteps yX3_doSteps, Cond.code yX3_doSteps cX3_doSteps 3 none, Cond.fieldLink RX3 16 "StateKeeper" "driftList" "LStateKeeper$Drifts;", Cond.fieldLink RX3 150 "StateKeeper" "stepsDone" "I", Cond.fieldLink RX3 69 "StateKeeper" "interval" "I", Cond.instanceMethod yX1_putIn, Cond.selects RX1 yX1_putIn yX1_putIn, Cond.code yX1_putIn cX1_putIn 6 none, Cond.methodLink RX1 43 yX1_changed, Cond.static yX1_changed, Cond.code yX1_changed cX1_changed 3 (some .float), Cond.static yX3_held, Cond.code yX3_held cX3_held 1 (some .float), Cond.instanceMethod yX0_flow, Cond.initialized RX0, Cond.selects RX0 yX0_flow yX0_flow, Cond.code yX0_flow cX0_flow 4 none, Cond.fieldLink RX0 22 "StateKeeper$Drifts" "size" "I"]
def wsX3_late_r5 : List Cond := [Cond.fieldLink RX0 15 "StateKeeper$Drifts" "targets" "[I", Cond.fieldLink RX0 9 "StateKeeper$Drifts" "sources" "[I", Cond.fieldLink RX0 18 "StateKeeper$Drifts" "factors" "[F", Cond.methodLink RX3 97 yX3_keepPresent, Cond.instanceMethod yX3_keepPresent, Cond.selects RX3 yX3_keepPresent yX3_keepPresent, Cond.code yX3_keepPresent cX3_keepPresent 2 none, Cond.instanceMethod yX2_take, Cond.selects RX2 yX2_take yX2_take, Cond.code yX2_take cX2_take 6 (some .boolean), Cond.methodLink RX2 37 arraycopyName, Cond.instanceMethod yX1_dropBelow, Cond.selects RX1 yX1_dropBelow yX1_dropBelow, Cond.code yX1_dropBelow cX1_dropBelow 3 none]
def wsX3_late : List Cond := .code yX3_late cX3_late 6 (some .int) :: ((wsX3_late_r1 ++ (wsX3_late_r2 ++ (wsX3_late_r3 ++ (wsX3_late_r4 ++ wsX3_late_r5)))) ++ wsX30 ++ wsX10 ++ wsX20 ++ wsX00 ++ (vx_atS RX3 45 "java/lang/IllegalArgumentException" ["java/lang/RuntimeException", "java/lang/Exception"]).filter goodWord ++ (vx_atS RX3 56 "java/lang/IllegalStateException" ["java/lang/RuntimeException", "java/lang/Exception"]).filter goodWord ++ (vx_atS RX3 130 "java/lang/IndexOutOfBoundsException" ["java/lang/RuntimeException", "java/lang/Exception"]).filter goodWord)
def wsX3_cell : List Cond := .code yX3_cell cX3_cell 2 (some .float) :: ([.fieldLink RX3 9 "StateKeeper" "cells" "[F", .methodLink RX3 36 yX3_needCell, .instanceMethod yX3_needCell, .selects RX3 yX3_needCell yX3_needCell, .initialized RX3, .code yX3_needCell cX3_needCell 2 none, .classLink RX3 126 "java/lang/IndexOutOfBoundsException", .initialized "java/lang/IndexOutOfBoundsException"] ++ wsX30 ++ (vx_atS RX3 130 "java/lang/IndexOutOfBoundsException" ["java/lang/RuntimeException", "java/lang/Exception"]).filter goodWord)
def wsX3_kept_r1 : List Cond := [Cond.fieldLink RX3 32 "StateKeeper" "snapshots" "LStateKeeper$Snapshots;", Cond.methodLink RX3 36 yX3_needCell, Cond.instanceMethod yX3_needCell, Cond.selects RX3 yX3_needCell yX3_needCell, Cond.initialized RX3, Cond.code yX3_needCell cX3_needCell 2 none, Cond.classLink RX3 126 "java/lang/IndexOutOfBoundsException", Cond.initialized "java/lang/IndexOutOfBoundsException", Cond.fieldLink RX3 9 "StateKeeper" "cells" "[F", Cond.methodLink RX3 101 yX3_neededSnapshot, Cond.instanceMethod yX3_neededSnapshot, Cond.selects RX3 yX3_neededSnapshot yX3_neededSnapshot, Cond.code yX3_neededSnapshot cX3_neededSnapshot 3 (some .int), Cond.instanceMethod yX2_find, Cond.initialized RX2, Cond.selects RX2 yX2_find yX2_find, Cond.code yX2_find cX2_find 3 (some .int), Cond.methodLink RX2 31 yX2_highestNotAbove, Cond.instanceMethod yX2_highestNotAbove, Cond.selects RX2 yX2_highestNotAbove yX2_highestNotAbove, Cond.code yX2_highestNotAbove cX2_highestNotAbove 3 (some .int), Cond.fieldLink RX2 20 "StateKeeper$Snapshots" "size" "I", Cond.methodLink RX2 34 yX2_stepOf, Cond.instanceMethod yX2_stepOf]
def wsX3_kept_r2 : List Cond := [Cond.selects RX2 yX2_stepOf yX2_stepOf, Cond.code yX2_stepOf cX2_stepOf 2 (some .int), Cond.fieldLink RX2 9 "StateKeeper$Snapshots" "steps" "[I", Cond.methodLink RX2 27 yX2_slot, Cond.instanceMethod yX2_slot, Cond.selects RX2 yX2_slot yX2_slot, Cond.code yX2_slot cX2_slot 2 (some .int), Cond.fieldLink RX2 24 "StateKeeper$Snapshots" "first" "I", Cond.instanceMethod yX2_row, Cond.selects RX2 yX2_row yX2_row, Cond.code yX2_row cX2_row 2 (some (.array .float)), Cond.fieldLink RX2 17 "StateKeeper$Snapshots" "rows" "[[F"]
def wsX3_kept : List Cond := .code yX3_kept cX3_kept 3 (some .float) :: ((wsX3_kept_r1 ++ wsX3_kept_r2) ++ wsX30 ++ wsX20 ++ (vx_atS RX3 130 "java/lang/IndexOutOfBoundsException" ["java/lang/RuntimeException", "java/lang/Exception"]).filter goodWord)
def wsX3_differs_r1 : List Cond := [Cond.fieldLink RX3 32 "StateKeeper" "snapshots" "LStateKeeper$Snapshots;", Cond.fieldLink RX3 9 "StateKeeper" "cells" "[F", Cond.methodLink RX3 101 yX3_neededSnapshot, Cond.instanceMethod yX3_neededSnapshot, Cond.selects RX3 yX3_neededSnapshot yX3_neededSnapshot, Cond.initialized RX3, Cond.code yX3_neededSnapshot cX3_neededSnapshot 3 (some .int), Cond.classLink RX3 126 "java/lang/IndexOutOfBoundsException", Cond.initialized "java/lang/IndexOutOfBoundsException", Cond.instanceMethod yX2_find, Cond.initialized RX2, Cond.selects RX2 yX2_find yX2_find, Cond.code yX2_find cX2_find 3 (some .int), Cond.methodLink RX2 31 yX2_highestNotAbove, Cond.instanceMethod yX2_highestNotAbove, Cond.selects RX2 yX2_highestNotAbove yX2_highestNotAbove, Cond.code yX2_highestNotAbove cX2_highestNotAbove 3 (some .int), Cond.fieldLink RX2 20 "StateKeeper$Snapshots" "size" "I", Cond.methodLink RX2 34 yX2_stepOf, Cond.instanceMethod yX2_stepOf, Cond.selects RX2 yX2_stepOf yX2_stepOf, Cond.code yX2_stepOf cX2_stepOf 2 (some .int), Cond.fieldLink RX2 9 "StateKeeper$Snapshots" "steps" "[I", Cond.methodLink RX2 27 yX2_slot]
def wsX3_differs_r2 : List Cond := [Cond.instanceMethod yX2_slot, Cond.selects RX2 yX2_slot yX2_slot, Cond.code yX2_slot cX2_slot 2 (some .int), Cond.fieldLink RX2 24 "StateKeeper$Snapshots" "first" "I", Cond.instanceMethod yX2_row, Cond.selects RX2 yX2_row yX2_row, Cond.code yX2_row cX2_row 2 (some (.array .float)), Cond.fieldLink RX2 17 "StateKeeper$Snapshots" "rows" "[[F"]
def wsX3_differs : List Cond := .code yX3_differs cX3_differs 4 (some .int) :: ((wsX3_differs_r1 ++ wsX3_differs_r2) ++ wsX30 ++ wsX20 ++ (vx_atS RX3 130 "java/lang/IndexOutOfBoundsException" ["java/lang/RuntimeException", "java/lang/Exception"]).filter goodWord)
def wsX3_snapshot : List Cond := .code yX3_snapshot cX3_snapshot 2 (some .int) :: ([.classLink RX3 126 "java/lang/IndexOutOfBoundsException", .initialized "java/lang/IndexOutOfBoundsException", .fieldLink RX3 32 "StateKeeper" "snapshots" "LStateKeeper$Snapshots;", .instanceMethod yX2_stepOf, .initialized RX2, .selects RX2 yX2_stepOf yX2_stepOf, .code yX2_stepOf cX2_stepOf 2 (some .int), .fieldLink RX2 9 "StateKeeper$Snapshots" "steps" "[I", .methodLink RX2 27 yX2_slot, .instanceMethod yX2_slot, .selects RX2 yX2_slot yX2_slot, .code yX2_slot cX2_slot 2 (some .int), .fieldLink RX2 24 "StateKeeper$Snapshots" "first" "I"] ++ wsX30 ++ wsX20 ++ (vx_atS RX3 130 "java/lang/IndexOutOfBoundsException" ["java/lang/RuntimeException", "java/lang/Exception"]).filter goodWord)
def wsX3_neededPlace : List Cond := .code yX3_neededPlace cX3_neededPlace 3 (some .int) :: ([.classLink RX3 126 "java/lang/IndexOutOfBoundsException", .initialized "java/lang/IndexOutOfBoundsException", .fieldLink RX3 23 "StateKeeper" "inputRecord" "LStateKeeper$InputRecord;", .instanceMethod yX1_sizeOf, .initialized RX1, .selects RX1 yX1_sizeOf yX1_sizeOf, .code yX1_sizeOf cX1_sizeOf 2 (some .int), .methodLink RX1 29 yX1_sizeBelow, .instanceMethod yX1_sizeBelow, .selects RX1 yX1_sizeBelow yX1_sizeBelow, .code yX1_sizeBelow cX1_sizeBelow 6 (some .int), .fieldLink RX1 25 "StateKeeper$InputRecord" "size" "I", .fieldLink RX1 9 "StateKeeper$InputRecord" "steps" "[I"] ++ wsX30 ++ wsX10 ++ (vx_atS RX3 130 "java/lang/IndexOutOfBoundsException" ["java/lang/RuntimeException", "java/lang/Exception"]).filter goodWord)
def wsX3_record : List Cond := .code yX3_record cX3_record 5 (some .int) :: ([.classLink RX3 126 "java/lang/IndexOutOfBoundsException", .initialized "java/lang/IndexOutOfBoundsException", .fieldLink RX3 23 "StateKeeper" "inputRecord" "LStateKeeper$InputRecord;", .methodLink RX3 134 yX3_neededPlace, .instanceMethod yX3_neededPlace, .selects RX3 yX3_neededPlace yX3_neededPlace, .initialized RX3, .code yX3_neededPlace cX3_neededPlace 3 (some .int), .instanceMethod yX1_sizeOf, .initialized RX1, .selects RX1 yX1_sizeOf yX1_sizeOf, .code yX1_sizeOf cX1_sizeOf 2 (some .int), .methodLink RX1 29 yX1_sizeBelow, .instanceMethod yX1_sizeBelow, .selects RX1 yX1_sizeBelow yX1_sizeBelow, .code yX1_sizeBelow cX1_sizeBelow 6 (some .int), .fieldLink RX1 25 "StateKeeper$InputRecord" "size" "I", .fieldLink RX1 9 "StateKeeper$InputRecord" "steps" "[I"] ++ wsX30 ++ wsX10 ++ (vx_atS RX3 130 "java/lang/IndexOutOfBoundsException" ["java/lang/RuntimeException", "java/lang/Exception"]).filter goodWord)
def wsX3_recorded : List Cond := .code yX3_recorded cX3_recorded 3 (some .float) :: ([.fieldLink RX3 23 "StateKeeper" "inputRecord" "LStateKeeper$InputRecord;", .methodLink RX3 134 yX3_neededPlace, .instanceMethod yX3_neededPlace, .selects RX3 yX3_neededPlace yX3_neededPlace, .initialized RX3, .code yX3_neededPlace cX3_neededPlace 3 (some .int), .classLink RX3 126 "java/lang/IndexOutOfBoundsException", .initialized "java/lang/IndexOutOfBoundsException", .instanceMethod yX1_sizeOf, .initialized RX1, .selects RX1 yX1_sizeOf yX1_sizeOf, .code yX1_sizeOf cX1_sizeOf 2 (some .int), .methodLink RX1 29 yX1_sizeBelow, .instanceMethod yX1_sizeBelow, .selects RX1 yX1_sizeBelow yX1_sizeBelow, .code yX1_sizeBelow cX1_sizeBelow 6 (some .int), .fieldLink RX1 25 "StateKeeper$InputRecord" "size" "I", .fieldLink RX1 9 "StateKeeper$InputRecord" "steps" "[I"] ++ wsX30 ++ wsX10 ++ (vx_atS RX3 130 "java/lang/IndexOutOfBoundsException" ["java/lang/RuntimeException", "java/lang/Exception"]).filter goodWord)
def wsX3_cellsNotZero : List Cond := .code yX3_cellsNotZero cX3_cellsNotZero 3 (some .int) :: ([.fieldLink RX3 9 "StateKeeper" "cells" "[F"] ++ wsX30)
def wsX3_count : List Cond := .code yX3_count cX3_count 2 (some .int) :: ([.classLink RX3 126 "java/lang/IndexOutOfBoundsException", .initialized "java/lang/IndexOutOfBoundsException", .fieldLink RX3 57 "StateKeeper" "present" "I", .fieldLink RX3 9 "StateKeeper" "cells" "[F", .fieldLink RX3 32 "StateKeeper" "snapshots" "LStateKeeper$Snapshots;", .fieldLink RX3 23 "StateKeeper" "inputRecord" "LStateKeeper$InputRecord;", .fieldLink RX3 16 "StateKeeper" "driftList" "LStateKeeper$Drifts;", .fieldLink RX3 150 "StateKeeper" "stepsDone" "I", .instanceMethod yX1_sizeOf, .initialized RX1, .selects RX1 yX1_sizeOf yX1_sizeOf, .code yX1_sizeOf cX1_sizeOf 2 (some .int), .methodLink RX1 29 yX1_sizeBelow, .instanceMethod yX1_sizeBelow, .selects RX1 yX1_sizeBelow yX1_sizeBelow, .code yX1_sizeBelow cX1_sizeBelow 6 (some .int), .fieldLink RX1 25 "StateKeeper$InputRecord" "size" "I", .fieldLink RX1 9 "StateKeeper$InputRecord" "steps" "[I", .methodLink RX3 153 yX3_cellsNotZero, .instanceMethod yX3_cellsNotZero, .selects RX3 yX3_cellsNotZero yX3_cellsNotZero, .initialized RX3, .code yX3_cellsNotZero cX3_cellsNotZero 3 (some .int)] ++ wsX30 ++ wsX20 ++ wsX10 ++ wsX00 ++ (vx_atS RX3 130 "java/lang/IndexOutOfBoundsException" ["java/lang/RuntimeException", "java/lang/Exception"]).filter goodWord)
def wsX3_sum : List Cond := .code yX3_sum cX3_sum 3 (some .float) :: ([.fieldLink RX3 9 "StateKeeper" "cells" "[F"] ++ wsX30)
def wsX4_placeOf : List Cond := .code yX4_placeOf cX4_placeOf 3 (some .int) :: ([.fieldLink RX4 101 "StateKeeperModel" "snapshots" "I", .fieldLink RX4 35 "StateKeeperModel" "keptSteps" "[I"] ++ wsX40)
def wsX4_moveDown : List Cond := .code yX4_moveDown cX4_moveDown 3 none :: ([.fieldLink RX4 101 "StateKeeperModel" "snapshots" "I", .fieldLink RX4 35 "StateKeeperModel" "keptSteps" "[I", .fieldLink RX4 41 "StateKeeperModel" "n" "I", .fieldLink RX4 38 "StateKeeperModel" "keptCells" "[F"] ++ wsX40)
def wsX4_drop : List Cond := .code yX4_drop cX4_drop 6 (some .int) :: ([.fieldLink RX4 65 "StateKeeperModel" "inputs" "I", .fieldLink RX4 23 "StateKeeperModel" "steps" "[I", .fieldLink RX4 26 "StateKeeperModel" "which" "[I", .fieldLink RX4 29 "StateKeeperModel" "ways" "[I", .fieldLink RX4 32 "StateKeeperModel" "values" "[F"] ++ wsX40)
def wsX4_keepNow : List Cond := .code yX4_keepNow cX4_keepNow 3 none :: ([.fieldLink RX4 62 "StateKeeperModel" "now" "I", .fieldLink RX4 101 "StateKeeperModel" "snapshots" "I", .fieldLink RX4 35 "StateKeeperModel" "keptSteps" "[I", .fieldLink RX4 41 "StateKeeperModel" "n" "I", .fieldLink RX4 38 "StateKeeperModel" "keptCells" "[F", .fieldLink RX4 7 "StateKeeperModel" "cells" "[F", .methodLink RX4 104 yX4_placeOf, .instanceMethod yX4_placeOf, .selects RX4 yX4_placeOf yX4_placeOf, .initialized RX4, .code yX4_placeOf cX4_placeOf 3 (some .int), .methodLink RX4 107 yX4_moveDown, .instanceMethod yX4_moveDown, .selects RX4 yX4_moveDown yX4_moveDown, .code yX4_moveDown cX4_moveDown 3 none, .methodLink RX4 110 yX4_drop, .instanceMethod yX4_drop, .selects RX4 yX4_drop yX4_drop, .code yX4_drop cX4_drop 6 (some .int), .fieldLink RX4 65 "StateKeeperModel" "inputs" "I", .fieldLink RX4 23 "StateKeeperModel" "steps" "[I", .fieldLink RX4 26 "StateKeeperModel" "which" "[I", .fieldLink RX4 29 "StateKeeperModel" "ways" "[I", .fieldLink RX4 32 "StateKeeperModel" "values" "[F"] ++ wsX40)
def wsX4_init_r1 : List Cond := [Cond.methodLink RX4 1 objectInit, Cond.instanceMethod objectInit, Cond.code objectInit ⟨#[0xb1]⟩ 1 none, Cond.arrayClass .float, Cond.fieldLink RX4 7 "StateKeeperModel" "cells" "[F", Cond.arrayClass .int, Cond.fieldLink RX4 13 "StateKeeperModel" "from" "[I", Cond.fieldLink RX4 17 "StateKeeperModel" "to" "[I", Cond.fieldLink RX4 20 "StateKeeperModel" "factors" "[F", Cond.fieldLink RX4 23 "StateKeeperModel" "steps" "[I", Cond.fieldLink RX4 26 "StateKeeperModel" "which" "[I", Cond.fieldLink RX4 29 "StateKeeperModel" "ways" "[I", Cond.fieldLink RX4 32 "StateKeeperModel" "values" "[F", Cond.fieldLink RX4 35 "StateKeeperModel" "keptSteps" "[I", Cond.fieldLink RX4 38 "StateKeeperModel" "keptCells" "[F", Cond.fieldLink RX4 41 "StateKeeperModel" "n" "I", Cond.methodLink RX4 45 yX4_keepNow, Cond.instanceMethod yX4_keepNow, Cond.selects RX4 yX4_keepNow yX4_keepNow, Cond.initialized RX4, Cond.code yX4_keepNow cX4_keepNow 3 none, Cond.fieldLink RX4 62 "StateKeeperModel" "now" "I", Cond.fieldLink RX4 101 "StateKeeperModel" "snapshots" "I", Cond.methodLink RX4 104 yX4_placeOf]
def wsX4_init_r2 : List Cond := [Cond.instanceMethod yX4_placeOf, Cond.selects RX4 yX4_placeOf yX4_placeOf, Cond.code yX4_placeOf cX4_placeOf 3 (some .int), Cond.methodLink RX4 107 yX4_moveDown, Cond.instanceMethod yX4_moveDown, Cond.selects RX4 yX4_moveDown yX4_moveDown, Cond.code yX4_moveDown cX4_moveDown 3 none, Cond.methodLink RX4 110 yX4_drop, Cond.instanceMethod yX4_drop, Cond.selects RX4 yX4_drop yX4_drop, Cond.code yX4_drop cX4_drop 6 (some .int), Cond.fieldLink RX4 65 "StateKeeperModel" "inputs" "I"]
def wsX4_init : List Cond := .code yX4_init cX4_init 2 none :: ((wsX4_init_r1 ++ wsX4_init_r2) ++ wsX40)
def wsX4_thrown : List Cond := .code yX4_thrown cX4_thrown 1 (some .int) :: ([.fieldLink RX4 48 "StateKeeperModel" "thrown" "I"] ++ wsX40)
def wsX4_goes : List Cond := .code yX4_goes cX4_goes 4 (some .boolean) :: ([.fieldLink RX4 48 "StateKeeperModel" "thrown" "I"] ++ wsX40)
def wsX4_known : List Cond := .code yX4_known cX4_known 2 (some .boolean) :: ([.fieldLink RX4 41 "StateKeeperModel" "n" "I"] ++ wsX40)
def wsX4_held : List Cond := .code yX4_held cX4_held 1 (some .float) :: ([.constantFloat RX4 51 (3347054592), .constantFloat RX4 52 (1199570944)])
def wsX4_within : List Cond := .code yX4_within cX4_within 1 (some .boolean) :: ([.constantFloat RX4 51 (3347054592), .constantFloat RX4 52 (1199570944)])
def wsX4_drift : List Cond := .code yX4_drift cX4_drift 4 (some .int) :: ([.constantFloat RX4 57 (3229614080), .constantFloat RX4 58 (1082130432), .fieldLink RX4 59 "StateKeeperModel" "drifts" "I", .fieldLink RX4 62 "StateKeeperModel" "now" "I", .fieldLink RX4 65 "StateKeeperModel" "inputs" "I", .fieldLink RX4 13 "StateKeeperModel" "from" "[I", .fieldLink RX4 17 "StateKeeperModel" "to" "[I", .fieldLink RX4 20 "StateKeeperModel" "factors" "[F", .methodLink RX4 53 yX4_known, .instanceMethod yX4_known, .selects RX4 yX4_known yX4_known, .initialized RX4, .code yX4_known cX4_known 2 (some .boolean), .fieldLink RX4 41 "StateKeeperModel" "n" "I", .methodLink RX4 68 yX4_goes, .instanceMethod yX4_goes, .selects RX4 yX4_goes yX4_goes, .code yX4_goes cX4_goes 4 (some .boolean), .fieldLink RX4 48 "StateKeeperModel" "thrown" "I"] ++ wsX40)
def wsX4_every : List Cond := .code yX4_every cX4_every 3 (some .int) :: ([.fieldLink RX4 72 "StateKeeperModel" "every" "I", .methodLink RX4 68 yX4_goes, .instanceMethod yX4_goes, .selects RX4 yX4_goes yX4_goes, .initialized RX4, .code yX4_goes cX4_goes 4 (some .boolean), .fieldLink RX4 48 "StateKeeperModel" "thrown" "I"] ++ wsX40)
def wsX4_inputsOf : List Cond := .code yX4_inputsOf cX4_inputsOf 4 (some .int) :: ([.fieldLink RX4 65 "StateKeeperModel" "inputs" "I", .fieldLink RX4 23 "StateKeeperModel" "steps" "[I"] ++ wsX40)
def wsX4_put : List Cond := .code yX4_put cX4_put 5 none :: ([.fieldLink RX4 23 "StateKeeperModel" "steps" "[I", .fieldLink RX4 65 "StateKeeperModel" "inputs" "I", .fieldLink RX4 26 "StateKeeperModel" "which" "[I", .fieldLink RX4 29 "StateKeeperModel" "ways" "[I", .fieldLink RX4 32 "StateKeeperModel" "values" "[F"] ++ wsX40)
def wsX4_input_r1 : List Cond := [Cond.fieldLink RX4 65 "StateKeeperModel" "inputs" "I", Cond.fieldLink RX4 62 "StateKeeperModel" "now" "I", Cond.methodLink RX4 53 yX4_known, Cond.instanceMethod yX4_known, Cond.selects RX4 yX4_known yX4_known, Cond.initialized RX4, Cond.code yX4_known cX4_known 2 (some .boolean), Cond.fieldLink RX4 41 "StateKeeperModel" "n" "I", Cond.methodLink RX4 75 yX4_within, Cond.static yX4_within, Cond.code yX4_within cX4_within 1 (some .boolean), Cond.constantFloat RX4 51 (3347054592), Cond.constantFloat RX4 52 (1199570944), Cond.methodLink RX4 68 yX4_goes, Cond.instanceMethod yX4_goes, Cond.selects RX4 yX4_goes yX4_goes, Cond.code yX4_goes cX4_goes 4 (some .boolean), Cond.fieldLink RX4 48 "StateKeeperModel" "thrown" "I", Cond.methodLink RX4 79 yX4_put, Cond.instanceMethod yX4_put, Cond.selects RX4 yX4_put yX4_put, Cond.code yX4_put cX4_put 5 none, Cond.fieldLink RX4 23 "StateKeeperModel" "steps" "[I", Cond.fieldLink RX4 26 "StateKeeperModel" "which" "[I"]
def wsX4_input_r2 : List Cond := [Cond.fieldLink RX4 29 "StateKeeperModel" "ways" "[I", Cond.fieldLink RX4 32 "StateKeeperModel" "values" "[F", Cond.methodLink RX4 83 yX4_inputsOf, Cond.instanceMethod yX4_inputsOf, Cond.selects RX4 yX4_inputsOf yX4_inputsOf, Cond.code yX4_inputsOf cX4_inputsOf 4 (some .int)]
def wsX4_input : List Cond := .code yX4_input cX4_input 4 (some .int) :: ((wsX4_input_r1 ++ wsX4_input_r2) ++ wsX40)
def wsX4_inputs_r1 : List Cond := [Cond.fieldLink RX4 41 "StateKeeperModel" "n" "I", Cond.fieldLink RX4 65 "StateKeeperModel" "inputs" "I", Cond.fieldLink RX4 62 "StateKeeperModel" "now" "I", Cond.methodLink RX4 53 yX4_known, Cond.instanceMethod yX4_known, Cond.selects RX4 yX4_known yX4_known, Cond.initialized RX4, Cond.code yX4_known cX4_known 2 (some .boolean), Cond.methodLink RX4 75 yX4_within, Cond.static yX4_within, Cond.code yX4_within cX4_within 1 (some .boolean), Cond.constantFloat RX4 51 (3347054592), Cond.constantFloat RX4 52 (1199570944), Cond.methodLink RX4 68 yX4_goes, Cond.instanceMethod yX4_goes, Cond.selects RX4 yX4_goes yX4_goes, Cond.code yX4_goes cX4_goes 4 (some .boolean), Cond.fieldLink RX4 48 "StateKeeperModel" "thrown" "I", Cond.methodLink RX4 79 yX4_put, Cond.instanceMethod yX4_put, Cond.selects RX4 yX4_put yX4_put, Cond.code yX4_put cX4_put 5 none, Cond.fieldLink RX4 23 "StateKeeperModel" "steps" "[I", Cond.fieldLink RX4 26 "StateKeeperModel" "which" "[I"]
def wsX4_inputs_r2 : List Cond := [Cond.fieldLink RX4 29 "StateKeeperModel" "ways" "[I", Cond.fieldLink RX4 32 "StateKeeperModel" "values" "[F", Cond.methodLink RX4 83 yX4_inputsOf, Cond.instanceMethod yX4_inputsOf, Cond.selects RX4 yX4_inputsOf yX4_inputsOf, Cond.code yX4_inputsOf cX4_inputsOf 4 (some .int)]
def wsX4_inputs : List Cond := .code yX4_inputs cX4_inputs 11 (some .int) :: ((wsX4_inputs_r1 ++ wsX4_inputs_r2) ++ wsX40)
def wsX4_act : List Cond := .code yX4_act cX4_act 3 none :: ([.fieldLink RX4 26 "StateKeeperModel" "which" "[I", .fieldLink RX4 7 "StateKeeperModel" "cells" "[F", .fieldLink RX4 29 "StateKeeperModel" "ways" "[I", .fieldLink RX4 32 "StateKeeperModel" "values" "[F", .methodLink RX4 87 yX4_held, .static yX4_held, .initialized RX4, .code yX4_held cX4_held 1 (some .float), .constantFloat RX4 51 (3347054592), .constantFloat RX4 52 (1199570944)] ++ wsX40)
def wsX4_once_r1 : List Cond := [Cond.fieldLink RX4 65 "StateKeeperModel" "inputs" "I", Cond.fieldLink RX4 23 "StateKeeperModel" "steps" "[I", Cond.fieldLink RX4 62 "StateKeeperModel" "now" "I", Cond.fieldLink RX4 59 "StateKeeperModel" "drifts" "I", Cond.fieldLink RX4 7 "StateKeeperModel" "cells" "[F", Cond.fieldLink RX4 17 "StateKeeperModel" "to" "[I", Cond.fieldLink RX4 13 "StateKeeperModel" "from" "[I", Cond.fieldLink RX4 20 "StateKeeperModel" "factors" "[F", Cond.fieldLink RX4 95 "StateKeeperModel" "done" "I", Cond.fieldLink RX4 72 "StateKeeperModel" "every" "I", Cond.methodLink RX4 91 yX4_act, Cond.instanceMethod yX4_act, Cond.selects RX4 yX4_act yX4_act, Cond.initialized RX4, Cond.code yX4_act cX4_act 3 none, Cond.fieldLink RX4 26 "StateKeeperModel" "which" "[I", Cond.fieldLink RX4 29 "StateKeeperModel" "ways" "[I", Cond.fieldLink RX4 32 "StateKeeperModel" "values" "[F", Cond.methodLink RX4 87 yX4_held, Cond.static yX4_held, Cond.code yX4_held cX4_held 1 (some .float), Cond.constantFloat RX4 51 (3347054592), Cond.constantFloat RX4 52 (1199570944), Cond.methodLink RX4 45 yX4_keepNow]
def wsX4_once_r2 : List Cond := [Cond.instanceMethod yX4_keepNow, Cond.selects RX4 yX4_keepNow yX4_keepNow, Cond.code yX4_keepNow cX4_keepNow 3 none, Cond.fieldLink RX4 101 "StateKeeperModel" "snapshots" "I", Cond.fieldLink RX4 35 "StateKeeperModel" "keptSteps" "[I", Cond.fieldLink RX4 41 "StateKeeperModel" "n" "I", Cond.fieldLink RX4 38 "StateKeeperModel" "keptCells" "[F", Cond.methodLink RX4 104 yX4_placeOf, Cond.instanceMethod yX4_placeOf, Cond.selects RX4 yX4_placeOf yX4_placeOf, Cond.code yX4_placeOf cX4_placeOf 3 (some .int), Cond.methodLink RX4 107 yX4_moveDown, Cond.instanceMethod yX4_moveDown, Cond.selects RX4 yX4_moveDown yX4_moveDown, Cond.code yX4_moveDown cX4_moveDown 3 none, Cond.methodLink RX4 110 yX4_drop, Cond.instanceMethod yX4_drop, Cond.selects RX4 yX4_drop yX4_drop, Cond.code yX4_drop cX4_drop 6 (some .int)]
def wsX4_once : List Cond := .code yX4_once cX4_once 2 none :: ((wsX4_once_r1 ++ wsX4_once_r2) ++ wsX40)
def wsX4_step_r1 : List Cond := [Cond.fieldLink RX4 62 "StateKeeperModel" "now" "I", Cond.methodLink RX4 68 yX4_goes, Cond.instanceMethod yX4_goes, Cond.selects RX4 yX4_goes yX4_goes, Cond.initialized RX4, Cond.code yX4_goes cX4_goes 4 (some .boolean), Cond.fieldLink RX4 48 "StateKeeperModel" "thrown" "I", Cond.methodLink RX4 98 yX4_once, Cond.instanceMethod yX4_once, Cond.selects RX4 yX4_once yX4_once, Cond.code yX4_once cX4_once 2 none, Cond.fieldLink RX4 65 "StateKeeperModel" "inputs" "I", Cond.fieldLink RX4 23 "StateKeeperModel" "steps" "[I", Cond.fieldLink RX4 59 "StateKeeperModel" "drifts" "I", Cond.fieldLink RX4 7 "StateKeeperModel" "cells" "[F", Cond.fieldLink RX4 17 "StateKeeperModel" "to" "[I", Cond.fieldLink RX4 13 "StateKeeperModel" "from" "[I", Cond.fieldLink RX4 20 "StateKeeperModel" "factors" "[F", Cond.fieldLink RX4 95 "StateKeeperModel" "done" "I", Cond.fieldLink RX4 72 "StateKeeperModel" "every" "I", Cond.methodLink RX4 91 yX4_act, Cond.instanceMethod yX4_act, Cond.selects RX4 yX4_act yX4_act, Cond.code yX4_act cX4_act 3 none]
def wsX4_step_r2 : List Cond := [Cond.fieldLink RX4 26 "StateKeeperModel" "which" "[I", Cond.fieldLink RX4 29 "StateKeeperModel" "ways" "[I", Cond.fieldLink RX4 32 "StateKeeperModel" "values" "[F", Cond.methodLink RX4 87 yX4_held, Cond.static yX4_held, Cond.code yX4_held cX4_held 1 (some .float), Cond.constantFloat RX4 51 (3347054592), Cond.constantFloat RX4 52 (1199570944), Cond.methodLink RX4 45 yX4_keepNow, Cond.instanceMethod yX4_keepNow, Cond.selects RX4 yX4_keepNow yX4_keepNow, Cond.code yX4_keepNow cX4_keepNow 3 none, Cond.fieldLink RX4 101 "StateKeeperModel" "snapshots" "I", Cond.fieldLink RX4 35 "StateKeeperModel" "keptSteps" "[I", Cond.fieldLink RX4 41 "StateKeeperModel" "n" "I", Cond.fieldLink RX4 38 "StateKeeperModel" "keptCells" "[F", Cond.methodLink RX4 104 yX4_placeOf, Cond.instanceMethod yX4_placeOf, Cond.selects RX4 yX4_placeOf yX4_placeOf, Cond.code yX4_placeOf cX4_placeOf 3 (some .int), Cond.methodLink RX4 107 yX4_moveDown, Cond.instanceMethod yX4_moveDown, Cond.selects RX4 yX4_moveDown yX4_moveDown, Cond.code yX4_moveDown cX4_moveDown 3 none]
def wsX4_step_r3 : List Cond := [Cond.methodLink RX4 110 yX4_drop, Cond.instanceMethod yX4_drop, Cond.selects RX4 yX4_drop yX4_drop, Cond.code yX4_drop cX4_drop 6 (some .int)]
def wsX4_step : List Cond := .code yX4_step cX4_step 3 (some .int) :: ((wsX4_step_r1 ++ (wsX4_step_r2 ++ wsX4_step_r3)) ++ wsX40)
def wsX4_keep_r1 : List Cond := [Cond.fieldLink RX4 48 "StateKeeperModel" "thrown" "I", Cond.fieldLink RX4 101 "StateKeeperModel" "snapshots" "I", Cond.methodLink RX4 45 yX4_keepNow, Cond.instanceMethod yX4_keepNow, Cond.selects RX4 yX4_keepNow yX4_keepNow, Cond.initialized RX4, Cond.code yX4_keepNow cX4_keepNow 3 none, Cond.fieldLink RX4 62 "StateKeeperModel" "now" "I", Cond.fieldLink RX4 35 "StateKeeperModel" "keptSteps" "[I", Cond.fieldLink RX4 41 "StateKeeperModel" "n" "I", Cond.fieldLink RX4 38 "StateKeeperModel" "keptCells" "[F", Cond.fieldLink RX4 7 "StateKeeperModel" "cells" "[F", Cond.methodLink RX4 104 yX4_placeOf, Cond.instanceMethod yX4_placeOf, Cond.selects RX4 yX4_placeOf yX4_placeOf, Cond.code yX4_placeOf cX4_placeOf 3 (some .int), Cond.methodLink RX4 107 yX4_moveDown, Cond.instanceMethod yX4_moveDown, Cond.selects RX4 yX4_moveDown yX4_moveDown, Cond.code yX4_moveDown cX4_moveDown 3 none, Cond.methodLink RX4 110 yX4_drop, Cond.instanceMethod yX4_drop, Cond.selects RX4 yX4_drop yX4_drop, Cond.code yX4_drop cX4_drop 6 (some .int)]
def wsX4_keep_r2 : List Cond := [Cond.fieldLink RX4 65 "StateKeeperModel" "inputs" "I", Cond.fieldLink RX4 23 "StateKeeperModel" "steps" "[I", Cond.fieldLink RX4 26 "StateKeeperModel" "which" "[I", Cond.fieldLink RX4 29 "StateKeeperModel" "ways" "[I", Cond.fieldLink RX4 32 "StateKeeperModel" "values" "[F"]
def wsX4_keep : List Cond := .code yX4_keep cX4_keep 1 (some .int) :: ((wsX4_keep_r1 ++ wsX4_keep_r2) ++ wsX40)
def wsX4_goBack : List Cond := .code yX4_goBack cX4_goBack 4 (some .int) :: ([.fieldLink RX4 101 "StateKeeperModel" "snapshots" "I", .fieldLink RX4 35 "StateKeeperModel" "keptSteps" "[I", .fieldLink RX4 62 "StateKeeperModel" "now" "I", .fieldLink RX4 41 "StateKeeperModel" "n" "I", .fieldLink RX4 7 "StateKeeperModel" "cells" "[F", .fieldLink RX4 38 "StateKeeperModel" "keptCells" "[F"] ++ wsX40)
def wsX4_back : List Cond := .code yX4_back cX4_back 3 (some .int) :: ([.methodLink RX4 104 yX4_placeOf, .instanceMethod yX4_placeOf, .selects RX4 yX4_placeOf yX4_placeOf, .initialized RX4, .code yX4_placeOf cX4_placeOf 3 (some .int), .fieldLink RX4 101 "StateKeeperModel" "snapshots" "I", .fieldLink RX4 35 "StateKeeperModel" "keptSteps" "[I", .methodLink RX4 68 yX4_goes, .instanceMethod yX4_goes, .selects RX4 yX4_goes yX4_goes, .code yX4_goes cX4_goes 4 (some .boolean), .fieldLink RX4 48 "StateKeeperModel" "thrown" "I", .methodLink RX4 114 yX4_goBack, .instanceMethod yX4_goBack, .selects RX4 yX4_goBack yX4_goBack, .code yX4_goBack cX4_goBack 4 (some .int), .fieldLink RX4 62 "StateKeeperModel" "now" "I", .fieldLink RX4 41 "StateKeeperModel" "n" "I", .fieldLink RX4 7 "StateKeeperModel" "cells" "[F", .fieldLink RX4 38 "StateKeeperModel" "keptCells" "[F"] ++ wsX40)
def wsX4_forget : List Cond := .code yX4_forget cX4_forget 2 (some .int) :: ([.fieldLink RX4 62 "StateKeeperModel" "now" "I", .constant RX4 117 (2147483647), .methodLink RX4 68 yX4_goes, .instanceMethod yX4_goes, .selects RX4 yX4_goes yX4_goes, .initialized RX4, .code yX4_goes cX4_goes 4 (some .boolean), .fieldLink RX4 48 "StateKeeperModel" "thrown" "I", .methodLink RX4 110 yX4_drop, .instanceMethod yX4_drop, .selects RX4 yX4_drop yX4_drop, .code yX4_drop cX4_drop 6 (some .int), .fieldLink RX4 65 "StateKeeperModel" "inputs" "I", .fieldLink RX4 23 "StateKeeperModel" "steps" "[I", .fieldLink RX4 26 "StateKeeperModel" "which" "[I", .fieldLink RX4 29 "StateKeeperModel" "ways" "[I", .fieldLink RX4 32 "StateKeeperModel" "values" "[F"] ++ wsX40)
def wsX4_highest : List Cond := .code yX4_highest cX4_highest 4 (some .int) :: ([.fieldLink RX4 101 "StateKeeperModel" "snapshots" "I", .fieldLink RX4 35 "StateKeeperModel" "keptSteps" "[I"] ++ wsX40)
def wsX4_late_r1 : List Cond := [Cond.fieldLink RX4 62 "StateKeeperModel" "now" "I", Cond.fieldLink RX4 65 "StateKeeperModel" "inputs" "I", Cond.methodLink RX4 118 yX4_highest, Cond.instanceMethod yX4_highest, Cond.selects RX4 yX4_highest yX4_highest, Cond.initialized RX4, Cond.code yX4_highest cX4_highest 4 (some .int), Cond.fieldLink RX4 101 "StateKeeperModel" "snapshots" "I", Cond.fieldLink RX4 35 "StateKeeperModel" "keptSteps" "[I", Cond.methodLink RX4 53 yX4_known, Cond.instanceMethod yX4_known, Cond.selects RX4 yX4_known yX4_known, Cond.code yX4_known cX4_known 2 (some .boolean), Cond.fieldLink RX4 41 "StateKeeperModel" "n" "I", Cond.methodLink RX4 75 yX4_within, Cond.static yX4_within, Cond.code yX4_within cX4_within 1 (some .boolean), Cond.constantFloat RX4 51 (3347054592), Cond.constantFloat RX4 52 (1199570944), Cond.methodLink RX4 68 yX4_goes, Cond.instanceMethod yX4_goes, Cond.selects RX4 yX4_goes yX4_goes, Cond.code yX4_goes cX4_goes 4 (some .boolean), Cond.fieldLink RX4 48 "StateKeeperModel" "thrown" "I"]
def wsX4_late_r2 : List Cond := [Cond.methodLink RX4 79 yX4_put, Cond.instanceMethod yX4_put, Cond.selects RX4 yX4_put yX4_put, Cond.code yX4_put cX4_put 5 none, Cond.fieldLink RX4 23 "StateKeeperModel" "steps" "[I", Cond.fieldLink RX4 26 "StateKeeperModel" "which" "[I", Cond.fieldLink RX4 29 "StateKeeperModel" "ways" "[I", Cond.fieldLink RX4 32 "StateKeeperModel" "values" "[F", Cond.methodLink RX4 114 yX4_goBack, Cond.instanceMethod yX4_goBack, Cond.selects RX4 yX4_goBack yX4_goBack, Cond.code yX4_goBack cX4_goBack 4 (some .int), Cond.fieldLink RX4 7 "StateKeeperModel" "cells" "[F", Cond.fieldLink RX4 38 "StateKeeperModel" "keptCells" "[F", Cond.methodLink RX4 98 yX4_once, Cond.instanceMethod yX4_once, Cond.selects RX4 yX4_once yX4_once, Cond.code yX4_once cX4_once 2 none, Cond.fieldLink RX4 59 "StateKeeperModel" "drifts" "I", Cond.fieldLink RX4 17 "StateKeeperModel" "to" "[I", Cond.fieldLink RX4 13 "StateKeeperModel" "from" "[I", Cond.fieldLink RX4 20 "StateKeeperModel" "factors" "[F", Cond.fieldLink RX4 95 "StateKeeperModel" "done" "I", Cond.fieldLink RX4 72 "StateKeeperModel" "every" "I"]
def wsX4_late_r3 : List Cond := [Cond.methodLink RX4 91 yX4_act, Cond.instanceMethod yX4_act, Cond.selects RX4 yX4_act yX4_act, Cond.code yX4_act cX4_act 3 none, Cond.methodLink RX4 87 yX4_held, Cond.static yX4_held, Cond.code yX4_held cX4_held 1 (some .float), Cond.methodLink RX4 45 yX4_keepNow, Cond.instanceMethod yX4_keepNow, Cond.selects RX4 yX4_keepNow yX4_keepNow, Cond.code yX4_keepNow cX4_keepNow 3 none, Cond.methodLink RX4 104 yX4_placeOf, Cond.instanceMethod yX4_placeOf, Cond.selects RX4 yX4_placeOf yX4_placeOf, Cond.code yX4_placeOf cX4_placeOf 3 (some .int), Cond.methodLink RX4 107 yX4_moveDown, Cond.instanceMethod yX4_moveDown, Cond.selects RX4 yX4_moveDown yX4_moveDown, Cond.code yX4_moveDown cX4_moveDown 3 none, Cond.methodLink RX4 110 yX4_drop, Cond.instanceMethod yX4_drop, Cond.selects RX4 yX4_drop yX4_drop, Cond.code yX4_drop cX4_drop 6 (some .int)]
def wsX4_late : List Cond := .code yX4_late cX4_late 11 (some .int) :: ((wsX4_late_r1 ++ (wsX4_late_r2 ++ wsX4_late_r3)) ++ wsX40)
def wsX4_cell : List Cond := .code yX4_cell cX4_cell 2 (some .float) :: ([.fieldLink RX4 7 "StateKeeperModel" "cells" "[F", .methodLink RX4 53 yX4_known, .instanceMethod yX4_known, .selects RX4 yX4_known yX4_known, .initialized RX4, .code yX4_known cX4_known 2 (some .boolean), .fieldLink RX4 41 "StateKeeperModel" "n" "I", .methodLink RX4 68 yX4_goes, .instanceMethod yX4_goes, .selects RX4 yX4_goes yX4_goes, .code yX4_goes cX4_goes 4 (some .boolean), .fieldLink RX4 48 "StateKeeperModel" "thrown" "I"] ++ wsX40)
def wsX4_kept : List Cond := .code yX4_kept cX4_kept 4 (some .float) :: ([.fieldLink RX4 38 "StateKeeperModel" "keptCells" "[F", .methodLink RX4 104 yX4_placeOf, .instanceMethod yX4_placeOf, .selects RX4 yX4_placeOf yX4_placeOf, .initialized RX4, .code yX4_placeOf cX4_placeOf 3 (some .int), .fieldLink RX4 101 "StateKeeperModel" "snapshots" "I", .fieldLink RX4 35 "StateKeeperModel" "keptSteps" "[I", .methodLink RX4 53 yX4_known, .instanceMethod yX4_known, .selects RX4 yX4_known yX4_known, .code yX4_known cX4_known 2 (some .boolean), .fieldLink RX4 41 "StateKeeperModel" "n" "I", .methodLink RX4 68 yX4_goes, .instanceMethod yX4_goes, .selects RX4 yX4_goes yX4_goes, .code yX4_goes cX4_goes 4 (some .boolean), .fieldLink RX4 48 "StateKeeperModel" "thrown" "I"] ++ wsX40)
def wsX4_differs : List Cond := .code yX4_differs cX4_differs 4 (some .int) :: ([.fieldLink RX4 41 "StateKeeperModel" "n" "I", .fieldLink RX4 7 "StateKeeperModel" "cells" "[F", .fieldLink RX4 38 "StateKeeperModel" "keptCells" "[F", .methodLink RX4 104 yX4_placeOf, .instanceMethod yX4_placeOf, .selects RX4 yX4_placeOf yX4_placeOf, .initialized RX4, .code yX4_placeOf cX4_placeOf 3 (some .int), .fieldLink RX4 101 "StateKeeperModel" "snapshots" "I", .fieldLink RX4 35 "StateKeeperModel" "keptSteps" "[I", .methodLink RX4 68 yX4_goes, .instanceMethod yX4_goes, .selects RX4 yX4_goes yX4_goes, .code yX4_goes cX4_goes 4 (some .boolean), .fieldLink RX4 48 "StateKeeperModel" "thrown" "I"] ++ wsX40)
def wsX4_snapshot : List Cond := .code yX4_snapshot cX4_snapshot 2 (some .int) :: ([.fieldLink RX4 101 "StateKeeperModel" "snapshots" "I", .fieldLink RX4 35 "StateKeeperModel" "keptSteps" "[I", .methodLink RX4 68 yX4_goes, .instanceMethod yX4_goes, .selects RX4 yX4_goes yX4_goes, .initialized RX4, .code yX4_goes cX4_goes 4 (some .boolean), .fieldLink RX4 48 "StateKeeperModel" "thrown" "I"] ++ wsX40)
def wsX4_find : List Cond := .code yX4_find cX4_find 5 (some .int) :: ([.fieldLink RX4 65 "StateKeeperModel" "inputs" "I", .fieldLink RX4 23 "StateKeeperModel" "steps" "[I"] ++ wsX40)
def wsX4_record : List Cond := .code yX4_record cX4_record 5 (some .int) :: ([.fieldLink RX4 26 "StateKeeperModel" "which" "[I", .fieldLink RX4 29 "StateKeeperModel" "ways" "[I", .methodLink RX4 121 yX4_find, .instanceMethod yX4_find, .selects RX4 yX4_find yX4_find, .initialized RX4, .code yX4_find cX4_find 5 (some .int), .fieldLink RX4 65 "StateKeeperModel" "inputs" "I", .fieldLink RX4 23 "StateKeeperModel" "steps" "[I", .methodLink RX4 68 yX4_goes, .instanceMethod yX4_goes, .selects RX4 yX4_goes yX4_goes, .code yX4_goes cX4_goes 4 (some .boolean), .fieldLink RX4 48 "StateKeeperModel" "thrown" "I"] ++ wsX40)
def wsX4_recorded : List Cond := .code yX4_recorded cX4_recorded 4 (some .float) :: ([.fieldLink RX4 32 "StateKeeperModel" "values" "[F", .methodLink RX4 121 yX4_find, .instanceMethod yX4_find, .selects RX4 yX4_find yX4_find, .initialized RX4, .code yX4_find cX4_find 5 (some .int), .fieldLink RX4 65 "StateKeeperModel" "inputs" "I", .fieldLink RX4 23 "StateKeeperModel" "steps" "[I", .methodLink RX4 68 yX4_goes, .instanceMethod yX4_goes, .selects RX4 yX4_goes yX4_goes, .code yX4_goes cX4_goes 4 (some .boolean), .fieldLink RX4 48 "StateKeeperModel" "thrown" "I"] ++ wsX40)
def wsX4_count : List Cond := .code yX4_count cX4_count 4 (some .int) :: ([.fieldLink RX4 41 "StateKeeperModel" "n" "I", .fieldLink RX4 7 "StateKeeperModel" "cells" "[F", .fieldLink RX4 62 "StateKeeperModel" "now" "I", .fieldLink RX4 101 "StateKeeperModel" "snapshots" "I", .fieldLink RX4 65 "StateKeeperModel" "inputs" "I", .fieldLink RX4 59 "StateKeeperModel" "drifts" "I", .fieldLink RX4 95 "StateKeeperModel" "done" "I", .methodLink RX4 68 yX4_goes, .instanceMethod yX4_goes, .selects RX4 yX4_goes yX4_goes, .initialized RX4, .code yX4_goes cX4_goes 4 (some .boolean), .fieldLink RX4 48 "StateKeeperModel" "thrown" "I", .methodLink RX4 83 yX4_inputsOf, .instanceMethod yX4_inputsOf, .selects RX4 yX4_inputsOf yX4_inputsOf, .code yX4_inputsOf cX4_inputsOf 4 (some .int), .fieldLink RX4 23 "StateKeeperModel" "steps" "[I"] ++ wsX40)
def wsX4_sum : List Cond := .code yX4_sum cX4_sum 3 (some .float) :: ([.fieldLink RX4 48 "StateKeeperModel" "thrown" "I", .fieldLink RX4 41 "StateKeeperModel" "n" "I", .fieldLink RX4 7 "StateKeeperModel" "cells" "[F"] ++ wsX40)
def wsL_cell : List Cond := .code yL_cell cL_cell 2 (some .int) :: ([])
def wsL_drift_r1 : List Cond := [Cond.classLink RL 13 "java/lang/IndexOutOfBoundsException", Cond.classLink RL 15 "java/lang/IllegalArgumentException", Cond.classLink RL 17 "java/lang/IllegalStateException", Cond.methodLink RL 7 yX3_drift, Cond.instanceMethod yX3_drift, Cond.selects RX3 yX3_drift yX3_drift, Cond.initialized RX3, Cond.code yX3_drift cX3_drift 4 (some .int), Cond.classLink RX3 41 "java/lang/IllegalArgumentException", Cond.initialized "java/lang/IllegalArgumentException", Cond.classLink RX3 52 "java/lang/IllegalStateException", Cond.initialized "java/lang/IllegalStateException", Cond.constantFloat RX3 39 (3229614080), Cond.constantFloat RX3 40 (1082130432), Cond.fieldLink RX3 16 "StateKeeper" "driftList" "LStateKeeper$Drifts;", Cond.fieldLink RX3 57 "StateKeeper" "present" "I", Cond.fieldLink RX3 23 "StateKeeper" "inputRecord" "LStateKeeper$InputRecord;", Cond.methodLink RX3 36 yX3_needCell, Cond.instanceMethod yX3_needCell, Cond.selects RX3 yX3_needCell yX3_needCell, Cond.code yX3_needCell cX3_needCell 2 none, Cond.classLink RX3 126 "java/lang/IndexOutOfBoundsException", Cond.initialized "java/lang/IndexOutOfBoundsException", Cond.fieldLink RX3 9 "StateKeeper" "cells" "[F"]
def wsL_drift_r2 : List Cond := [Cond.instanceMethod yX0_append, Cond.initialized RX0, Cond.selects RX0 yX0_append yX0_append, Cond.code yX0_append cX0_append 4 none, Cond.fieldLink RX0 9 "StateKeeper$Drifts" "sources" "[I", Cond.fieldLink RX0 22 "StateKeeper$Drifts" "size" "I", Cond.fieldLink RX0 15 "StateKeeper$Drifts" "targets" "[I", Cond.fieldLink RX0 18 "StateKeeper$Drifts" "factors" "[F"]
def wsL_drift : List Cond := .codeWith yL_drift cL_drift 6 (some .int) [(0, 12, 15, 13), (0, 12, 19, 15), (0, 12, 23, 17)] :: ((wsL_drift_r1 ++ wsL_drift_r2) ++ wsX30 ++ wsX00 ++ wsX10 ++ (vx_atS RX3 45 "java/lang/IllegalArgumentException" ["java/lang/RuntimeException", "java/lang/Exception"]).filter goodWord ++ (vx_atS RX3 56 "java/lang/IllegalStateException" ["java/lang/RuntimeException", "java/lang/Exception"]).filter goodWord ++ (vx_atS RX3 130 "java/lang/IndexOutOfBoundsException" ["java/lang/RuntimeException", "java/lang/Exception"]).filter goodWord)
def wsL_every : List Cond := .codeWith yL_every cL_every 4 (some .int) [(0, 9, 12, 15)] :: ([.classLink RL 15 "java/lang/IllegalArgumentException", .methodLink RL 19 yX3_every, .instanceMethod yX3_every, .selects RX3 yX3_every yX3_every, .initialized RX3, .code yX3_every cX3_every 3 (some .int), .classLink RX3 41 "java/lang/IllegalArgumentException", .initialized "java/lang/IllegalArgumentException", .fieldLink RX3 69 "StateKeeper" "interval" "I"] ++ wsX30 ++ (vx_atS RX3 45 "java/lang/IllegalArgumentException" ["java/lang/RuntimeException", "java/lang/Exception"]).filter goodWord)
def wsL_input_r1 : List Cond := [Cond.classLink RL 13 "java/lang/IndexOutOfBoundsException", Cond.classLink RL 15 "java/lang/IllegalArgumentException", Cond.classLink RL 17 "java/lang/IllegalStateException", Cond.methodLink RL 23 yX3_input, Cond.instanceMethod yX3_input, Cond.selects RX3 yX3_input yX3_input, Cond.initialized RX3, Cond.code yX3_input cX3_input 4 (some .int), Cond.fieldLink RX3 23 "StateKeeper" "inputRecord" "LStateKeeper$InputRecord;", Cond.fieldLink RX3 57 "StateKeeper" "present" "I", Cond.methodLink RX3 36 yX3_needCell, Cond.instanceMethod yX3_needCell, Cond.selects RX3 yX3_needCell yX3_needCell, Cond.code yX3_needCell cX3_needCell 2 none, Cond.classLink RX3 126 "java/lang/IndexOutOfBoundsException", Cond.initialized "java/lang/IndexOutOfBoundsException", Cond.fieldLink RX3 9 "StateKeeper" "cells" "[F", Cond.methodLink RX3 72 yX3_needWayAndNumber, Cond.static yX3_needWayAndNumber, Cond.code yX3_needWayAndNumber cX3_needWayAndNumber 2 none, Cond.classLink RX3 41 "java/lang/IllegalArgumentException", Cond.initialized "java/lang/IllegalArgumentException", Cond.constantFloat RX3 189 (3347054592), Cond.constantFloat RX3 190 (1199570944)]
def wsL_input_r2 : List Cond := [Cond.methodLink RX3 76 yX3_needRoom, Cond.instanceMethod yX3_needRoom, Cond.selects RX3 yX3_needRoom yX3_needRoom, Cond.code yX3_needRoom cX3_needRoom 2 none, Cond.classLink RX3 52 "java/lang/IllegalStateException", Cond.initialized "java/lang/IllegalStateException", Cond.instanceMethod yX1_append, Cond.initialized RX1, Cond.selects RX1 yX1_append yX1_append, Cond.code yX1_append cX1_append 6 none, Cond.fieldLink RX1 9 "StateKeeper$InputRecord" "steps" "[I", Cond.fieldLink RX1 15 "StateKeeper$InputRecord" "targets" "[I", Cond.fieldLink RX1 18 "StateKeeper$InputRecord" "ways" "[I", Cond.fieldLink RX1 21 "StateKeeper$InputRecord" "numbers" "[F", Cond.fieldLink RX1 25 "StateKeeper$InputRecord" "size" "I", Cond.methodLink RX1 29 yX1_sizeBelow, Cond.instanceMethod yX1_sizeBelow, Cond.selects RX1 yX1_sizeBelow yX1_sizeBelow, Cond.code yX1_sizeBelow cX1_sizeBelow 6 (some .int), Cond.methodLink RX1 33 yX1_moveRest, Cond.instanceMethod yX1_moveRest, Cond.selects RX1 yX1_moveRest yX1_moveRest, Cond.code yX1_moveRest cX1_moveRest 4 none, Cond.methodLink RX1 37 arraycopyName]
def wsL_input_r3 : List Cond := [Cond.native arraycopyName, Cond.static arraycopyName, Cond.initialized "java/lang/System", Cond.instanceMethod yX1_sizeOf, Cond.selects RX1 yX1_sizeOf yX1_sizeOf, Cond.code yX1_sizeOf cX1_sizeOf 2 (some .int)]
def wsL_input : List Cond := .codeWith yL_input cL_input 6 (some .int) [(0, 12, 15, 13), (0, 12, 19, 15), (0, 12, 23, 17)] :: ((wsL_input_r1 ++ (wsL_input_r2 ++ wsL_input_r3)) ++ wsX30 ++ wsX10 ++ (vx_atS RX3 130 "java/lang/IndexOutOfBoundsException" ["java/lang/RuntimeException", "java/lang/Exception"]).filter goodWord ++ (vx_atS RX3 45 "java/lang/IllegalArgumentException" ["java/lang/RuntimeException", "java/lang/Exception"]).filter goodWord ++ (vx_atS RX3 56 "java/lang/IllegalStateException" ["java/lang/RuntimeException", "java/lang/Exception"]).filter goodWord)
def wsL_inputs_r1 : List Cond := [Cond.classLink RL 13 "java/lang/IndexOutOfBoundsException", Cond.classLink RL 15 "java/lang/IllegalArgumentException", Cond.classLink RL 17 "java/lang/IllegalStateException", Cond.methodLink RL 26 yX3_inputs, Cond.instanceMethod yX3_inputs, Cond.selects RX3 yX3_inputs yX3_inputs, Cond.initialized RX3, Cond.code yX3_inputs cX3_inputs 7 (some .int), Cond.classLink RX3 41 "java/lang/IllegalArgumentException", Cond.initialized "java/lang/IllegalArgumentException", Cond.fieldLink RX3 23 "StateKeeper" "inputRecord" "LStateKeeper$InputRecord;", Cond.fieldLink RX3 57 "StateKeeper" "present" "I", Cond.methodLink RX3 36 yX3_needCell, Cond.instanceMethod yX3_needCell, Cond.selects RX3 yX3_needCell yX3_needCell, Cond.code yX3_needCell cX3_needCell 2 none, Cond.classLink RX3 126 "java/lang/IndexOutOfBoundsException", Cond.initialized "java/lang/IndexOutOfBoundsException", Cond.fieldLink RX3 9 "StateKeeper" "cells" "[F", Cond.methodLink RX3 88 yX3_needLastCell, Cond.instanceMethod yX3_needLastCell, Cond.selects RX3 yX3_needLastCell yX3_needLastCell, Cond.code yX3_needLastCell cX3_needLastCell 6 none, Cond.methodLink RX3 72 yX3_needWayAndNumber]
def wsL_inputs_r2 : List Cond := [Cond.static yX3_needWayAndNumber, Cond.code yX3_needWayAndNumber cX3_needWayAndNumber 2 none, Cond.constantFloat RX3 189 (3347054592), Cond.constantFloat RX3 190 (1199570944), Cond.methodLink RX3 76 yX3_needRoom, Cond.instanceMethod yX3_needRoom, Cond.selects RX3 yX3_needRoom yX3_needRoom, Cond.code yX3_needRoom cX3_needRoom 2 none, Cond.classLink RX3 52 "java/lang/IllegalStateException", Cond.initialized "java/lang/IllegalStateException", Cond.instanceMethod yX1_append, Cond.initialized RX1, Cond.selects RX1 yX1_append yX1_append, Cond.code yX1_append cX1_append 6 none, Cond.fieldLink RX1 9 "StateKeeper$InputRecord" "steps" "[I", Cond.fieldLink RX1 15 "StateKeeper$InputRecord" "targets" "[I", Cond.fieldLink RX1 18 "StateKeeper$InputRecord" "ways" "[I", Cond.fieldLink RX1 21 "StateKeeper$InputRecord" "numbers" "[F", Cond.fieldLink RX1 25 "StateKeeper$InputRecord" "size" "I", Cond.methodLink RX1 29 yX1_sizeBelow, Cond.instanceMethod yX1_sizeBelow, Cond.selects RX1 yX1_sizeBelow yX1_sizeBelow, Cond.code yX1_sizeBelow cX1_sizeBelow 6 (some .int), Cond.methodLink RX1 33 yX1_moveRest]
def wsL_inputs_r3 : List Cond := [Cond.instanceMethod yX1_moveRest, Cond.selects RX1 yX1_moveRest yX1_moveRest, Cond.code yX1_moveRest cX1_moveRest 4 none, Cond.methodLink RX1 37 arraycopyName, Cond.native arraycopyName, Cond.static arraycopyName, Cond.initialized "java/lang/System", Cond.instanceMethod yX1_sizeOf, Cond.selects RX1 yX1_sizeOf yX1_sizeOf, Cond.code yX1_sizeOf cX1_sizeOf 2 (some .int)]
def wsL_inputs : List Cond := .codeWith yL_inputs cL_inputs 8 (some .int) [(0, 16, 19, 13), (0, 16, 23, 15), (0, 16, 27, 17)] :: ((wsL_inputs_r1 ++ (wsL_inputs_r2 ++ wsL_inputs_r3)) ++ wsX30 ++ wsX10 ++ (vx_atS RX3 45 "java/lang/IllegalArgumentException" ["java/lang/RuntimeException", "java/lang/Exception"]).filter goodWord ++ (vx_atS RX3 130 "java/lang/IndexOutOfBoundsException" ["java/lang/RuntimeException", "java/lang/Exception"]).filter goodWord ++ (vx_atS RX3 56 "java/lang/IllegalStateException" ["java/lang/RuntimeException", "java/lang/Exception"]).filter goodWord)
def wsL_step_r1 : List Cond := [Cond.classLink RL 15 "java/lang/IllegalArgumentException", Cond.methodLink RL 30 yX3_step, Cond.instanceMethod yX3_step, Cond.selects RX3 yX3_step yX3_step, Cond.initialized RX3, Cond.code yX3_step cX3_step 2 (some .int), Cond.classLink RX3 41 "java/lang/IllegalArgumentException", Cond.initialized "java/lang/IllegalArgumentException", Cond.fieldLink RX3 57 "StateKeeper" "present" "I", Cond.methodLink RX3 94 yX3_doSteps, Cond.instanceMethod yX3_doSteps, Cond.selects RX3 yX3_doSteps yX3_doSteps, Cond.code yX3_doSteps cX3_doSteps 3 none, Cond.fieldLink RX3 23 "StateKeeper" "inputRecord" "LStateKeeper$InputRecord;", Cond.fieldLink RX3 9 "StateKeeper" "cells" "[F", Cond.fieldLink RX3 16 "StateKeeper" "driftList" "LStateKeeper$Drifts;", Cond.fieldLink RX3 150 "StateKeeper" "stepsDone" "I", Cond.fieldLink RX3 69 "StateKeeper" "interval" "I", Cond.instanceMethod yX1_putIn, Cond.initialized RX1, Cond.selects RX1 yX1_putIn yX1_putIn, Cond.code yX1_putIn cX1_putIn 6 none, Cond.fieldLink RX1 15 "StateKeeper$InputRecord" "targets" "[I", Cond.fieldLink RX1 18 "StateKeeper$InputRecord" "ways" "[I"]
def wsL_step_r2 : List Cond := [Cond.fieldLink RX1 21 "StateKeeper$InputRecord" "numbers" "[F", Cond.methodLink RX1 29 yX1_sizeBelow, Cond.instanceMethod yX1_sizeBelow, Cond.selects RX1 yX1_sizeBelow yX1_sizeBelow, Cond.code yX1_sizeBelow cX1_sizeBelow 6 (some .int), Cond.fieldLink RX1 25 "StateKeeper$InputRecord" "size" "I", Cond.fieldLink RX1 9 "StateKeeper$InputRecord" "steps" "[I", Cond.methodLink RX1 43 yX1_changed, Cond.static yX1_changed, Cond.code yX1_changed cX1_changed 3 (some .float), Cond.static yX3_held, Cond.code yX3_held cX3_held 1 (some .float), Cond.constantFloat RX3 189 (3347054592), Cond.constantFloat RX3 190 (1199570944), Cond.instanceMethod yX0_flow, Cond.initialized RX0, Cond.selects RX0 yX0_flow yX0_flow, Cond.code yX0_flow cX0_flow 4 none, Cond.fieldLink RX0 22 "StateKeeper$Drifts" "size" "I", Cond.fieldLink RX0 15 "StateKeeper$Drifts" "targets" "[I", Cond.fieldLink RX0 9 "StateKeeper$Drifts" "sources" "[I", Cond.fieldLink RX0 18 "StateKeeper$Drifts" "factors" "[F", Cond.methodLink RX3 97 yX3_keepPresent, Cond.instanceMethod yX3_keepPresent]
def wsL_step_r3 : List Cond := [Cond.selects RX3 yX3_keepPresent yX3_keepPresent, Cond.code yX3_keepPresent cX3_keepPresent 2 none, Cond.fieldLink RX3 32 "StateKeeper" "snapshots" "LStateKeeper$Snapshots;", Cond.instanceMethod yX2_take, Cond.initialized RX2, Cond.selects RX2 yX2_take yX2_take, Cond.code yX2_take cX2_take 6 (some .boolean), Cond.fieldLink RX2 20 "StateKeeper$Snapshots" "size" "I", Cond.fieldLink RX2 24 "StateKeeper$Snapshots" "first" "I", Cond.fieldLink RX2 9 "StateKeeper$Snapshots" "steps" "[I", Cond.fieldLink RX2 17 "StateKeeper$Snapshots" "rows" "[[F", Cond.methodLink RX2 37 arraycopyName, Cond.native arraycopyName, Cond.static arraycopyName, Cond.initialized "java/lang/System", Cond.methodLink RX2 34 yX2_stepOf, Cond.instanceMethod yX2_stepOf, Cond.selects RX2 yX2_stepOf yX2_stepOf, Cond.code yX2_stepOf cX2_stepOf 2 (some .int), Cond.methodLink RX2 27 yX2_slot, Cond.instanceMethod yX2_slot, Cond.selects RX2 yX2_slot yX2_slot, Cond.code yX2_slot cX2_slot 2 (some .int), Cond.instanceMethod yX1_dropBelow]
def wsL_step_r4 : List Cond := [Cond.selects RX1 yX1_dropBelow yX1_dropBelow, Cond.code yX1_dropBelow cX1_dropBelow 3 none, Cond.methodLink RX1 33 yX1_moveRest, Cond.instanceMethod yX1_moveRest, Cond.selects RX1 yX1_moveRest yX1_moveRest, Cond.code yX1_moveRest cX1_moveRest 4 none, Cond.methodLink RX1 37 arraycopyName]
def wsL_step : List Cond := .codeWith yL_step cL_step 4 (some .int) [(0, 9, 12, 15)] :: ((wsL_step_r1 ++ (wsL_step_r2 ++ (wsL_step_r3 ++ wsL_step_r4))) ++ wsX30 ++ wsX10 ++ wsX00 ++ wsX20 ++ (vx_atS RX3 45 "java/lang/IllegalArgumentException" ["java/lang/RuntimeException", "java/lang/Exception"]).filter goodWord)
def wsL_back_r1 : List Cond := [Cond.classLink RL 13 "java/lang/IndexOutOfBoundsException", Cond.methodLink RL 33 yX3_back, Cond.instanceMethod yX3_back, Cond.selects RX3 yX3_back yX3_back, Cond.initialized RX3, Cond.code yX3_back cX3_back 2 (some .int), Cond.methodLink RX3 101 yX3_neededSnapshot, Cond.instanceMethod yX3_neededSnapshot, Cond.selects RX3 yX3_neededSnapshot yX3_neededSnapshot, Cond.code yX3_neededSnapshot cX3_neededSnapshot 3 (some .int), Cond.classLink RX3 126 "java/lang/IndexOutOfBoundsException", Cond.initialized "java/lang/IndexOutOfBoundsException", Cond.fieldLink RX3 32 "StateKeeper" "snapshots" "LStateKeeper$Snapshots;", Cond.instanceMethod yX2_find, Cond.initialized RX2, Cond.selects RX2 yX2_find yX2_find, Cond.code yX2_find cX2_find 3 (some .int), Cond.methodLink RX2 31 yX2_highestNotAbove, Cond.instanceMethod yX2_highestNotAbove, Cond.selects RX2 yX2_highestNotAbove yX2_highestNotAbove, Cond.code yX2_highestNotAbove cX2_highestNotAbove 3 (some .int), Cond.fieldLink RX2 20 "StateKeeper$Snapshots" "size" "I", Cond.methodLink RX2 34 yX2_stepOf, Cond.instanceMethod yX2_stepOf]
def wsL_back_r2 : List Cond := [Cond.selects RX2 yX2_stepOf yX2_stepOf, Cond.code yX2_stepOf cX2_stepOf 2 (some .int), Cond.fieldLink RX2 9 "StateKeeper$Snapshots" "steps" "[I", Cond.methodLink RX2 27 yX2_slot, Cond.instanceMethod yX2_slot, Cond.selects RX2 yX2_slot yX2_slot, Cond.code yX2_slot cX2_slot 2 (some .int), Cond.fieldLink RX2 24 "StateKeeper$Snapshots" "first" "I", Cond.methodLink RX3 104 yX3_goBackTo, Cond.instanceMethod yX3_goBackTo, Cond.selects RX3 yX3_goBackTo yX3_goBackTo, Cond.code yX3_goBackTo cX3_goBackTo 2 (some .int), Cond.fieldLink RX3 9 "StateKeeper" "cells" "[F", Cond.methodLink RX3 174 arraycopyName, Cond.native arraycopyName, Cond.static arraycopyName, Cond.initialized "java/lang/System", Cond.fieldLink RX3 57 "StateKeeper" "present" "I", Cond.instanceMethod yX2_row, Cond.selects RX2 yX2_row yX2_row, Cond.code yX2_row cX2_row 2 (some (.array .float)), Cond.fieldLink RX2 17 "StateKeeper$Snapshots" "rows" "[[F", Cond.instanceMethod yX2_dropBehind, Cond.selects RX2 yX2_dropBehind yX2_dropBehind]
def wsL_back_r3 : List Cond := [Cond.code yX2_dropBehind cX2_dropBehind 3 (some .int)]
def wsL_back : List Cond := .codeWith yL_back cL_back 4 (some .int) [(0, 9, 12, 13)] :: ((wsL_back_r1 ++ (wsL_back_r2 ++ wsL_back_r3)) ++ wsX30 ++ wsX20 ++ (vx_atS RX3 130 "java/lang/IndexOutOfBoundsException" ["java/lang/RuntimeException", "java/lang/Exception"]).filter goodWord)
def wsL_forget : List Cond := .codeWith yL_forget cL_forget 4 (some .int) [(0, 9, 12, 15)] :: ([.classLink RL 15 "java/lang/IllegalArgumentException", .methodLink RL 36 yX3_forget, .instanceMethod yX3_forget, .selects RX3 yX3_forget yX3_forget, .initialized RX3, .code yX3_forget cX3_forget 2 (some .int), .classLink RX3 41 "java/lang/IllegalArgumentException", .initialized "java/lang/IllegalArgumentException", .fieldLink RX3 57 "StateKeeper" "present" "I", .fieldLink RX3 23 "StateKeeper" "inputRecord" "LStateKeeper$InputRecord;", .instanceMethod yX1_dropFrom, .initialized RX1, .selects RX1 yX1_dropFrom yX1_dropFrom, .code yX1_dropFrom cX1_dropFrom 3 (some .int), .fieldLink RX1 25 "StateKeeper$InputRecord" "size" "I", .methodLink RX1 29 yX1_sizeBelow, .instanceMethod yX1_sizeBelow, .selects RX1 yX1_sizeBelow yX1_sizeBelow, .code yX1_sizeBelow cX1_sizeBelow 6 (some .int), .fieldLink RX1 9 "StateKeeper$InputRecord" "steps" "[I"] ++ wsX30 ++ wsX10 ++ (vx_atS RX3 45 "java/lang/IllegalArgumentException" ["java/lang/RuntimeException", "java/lang/Exception"]).filter goodWord)
def wsL_late_r1 : List Cond := [Cond.classLink RL 13 "java/lang/IndexOutOfBoundsException", Cond.classLink RL 15 "java/lang/IllegalArgumentException", Cond.classLink RL 17 "java/lang/IllegalStateException", Cond.methodLink RL 39 yX3_late, Cond.instanceMethod yX3_late, Cond.selects RX3 yX3_late yX3_late, Cond.initialized RX3, Cond.code yX3_late cX3_late 6 (some .int), Cond.classLink RX3 41 "java/lang/IllegalArgumentException", Cond.initialized "java/lang/IllegalArgumentException", Cond.classLink RX3 52 "java/lang/IllegalStateException", Cond.initialized "java/lang/IllegalStateException", Cond.fieldLink RX3 57 "StateKeeper" "present" "I", Cond.fieldLink RX3 32 "StateKeeper" "snapshots" "LStateKeeper$Snapshots;", Cond.fieldLink RX3 23 "StateKeeper" "inputRecord" "LStateKeeper$InputRecord;", Cond.methodLink RX3 36 yX3_needCell, Cond.instanceMethod yX3_needCell, Cond.selects RX3 yX3_needCell yX3_needCell, Cond.code yX3_needCell cX3_needCell 2 none, Cond.classLink RX3 126 "java/lang/IndexOutOfBoundsException", Cond.initialized "java/lang/IndexOutOfBoundsException", Cond.fieldLink RX3 9 "StateKeeper" "cells" "[F", Cond.methodLink RX3 72 yX3_needWayAndNumber, Cond.static yX3_needWayAndNumber]
def wsL_late_r2 : List Cond := [Cond.code yX3_needWayAndNumber cX3_needWayAndNumber 2 none, Cond.constantFloat RX3 189 (3347054592), Cond.constantFloat RX3 190 (1199570944), Cond.methodLink RX3 76 yX3_needRoom, Cond.instanceMethod yX3_needRoom, Cond.selects RX3 yX3_needRoom yX3_needRoom, Cond.code yX3_needRoom cX3_needRoom 2 none, Cond.instanceMethod yX2_highestNotAbove, Cond.initialized RX2, Cond.selects RX2 yX2_highestNotAbove yX2_highestNotAbove, Cond.code yX2_highestNotAbove cX2_highestNotAbove 3 (some .int), Cond.fieldLink RX2 20 "StateKeeper$Snapshots" "size" "I", Cond.methodLink RX2 34 yX2_stepOf, Cond.instanceMethod yX2_stepOf, Cond.selects RX2 yX2_stepOf yX2_stepOf, Cond.code yX2_stepOf cX2_stepOf 2 (some .int), Cond.fieldLink RX2 9 "StateKeeper$Snapshots" "steps" "[I", Cond.methodLink RX2 27 yX2_slot, Cond.instanceMethod yX2_slot, Cond.selects RX2 yX2_slot yX2_slot, Cond.code yX2_slot cX2_slot 2 (some .int), Cond.fieldLink RX2 24 "StateKeeper$Snapshots" "first" "I", Cond.instanceMethod yX1_append, Cond.initialized RX1]
def wsL_late_r3 : List Cond := [Cond.selects RX1 yX1_append yX1_append, Cond.code yX1_append cX1_append 6 none, Cond.fieldLink RX1 9 "StateKeeper$InputRecord" "steps" "[I", Cond.fieldLink RX1 15 "StateKeeper$InputRecord" "targets" "[I", Cond.fieldLink RX1 18 "StateKeeper$InputRecord" "ways" "[I", Cond.fieldLink RX1 21 "StateKeeper$InputRecord" "numbers" "[F", Cond.fieldLink RX1 25 "StateKeeper$InputRecord" "size" "I", Cond.methodLink RX1 29 yX1_sizeBelow, Cond.instanceMethod yX1_sizeBelow, Cond.selects RX1 yX1_sizeBelow yX1_sizeBelow, Cond.code yX1_sizeBelow cX1_sizeBelow 6 (some .int), Cond.methodLink RX1 33 yX1_moveRest, Cond.instanceMethod yX1_moveRest, Cond.selects RX1 yX1_moveRest yX1_moveRest, Cond.code yX1_moveRest cX1_moveRest 4 none, Cond.methodLink RX1 37 arraycopyName, Cond.native arraycopyName, Cond.static arraycopyName, Cond.initialized "java/lang/System", Cond.methodLink RX3 119 yX3_stepAgainFrom, Cond.instanceMethod yX3_stepAgainFrom, Cond.selects RX3 yX3_stepAgainFrom yX3_stepAgainFrom, Cond.code yX3_stepAgainFrom cX3_stepAgainFrom 4 (some .int), Cond.methodLink RX3 104 yX3_goBackTo]
end
section
def wsL_late_r4 : List Cond := [Cond.instanceMethod yX3_goBackTo, Cond.selects RX3 yX3_goBackTo yX3_goBackTo, Cond.code yX3_goBackTo cX3_goBackTo 2 (some .int), Cond.methodLink RX3 174 arraycopyName, Cond.instanceMethod yX2_row, Cond.selects RX2 yX2_row yX2_row, Cond.code yX2_row cX2_row 2 (some (.array .float)), Cond.fieldLink RX2 17 "StateKeeper$Snapshots" "rows" "[[F", Cond.instanceMethod yX2_dropBehind, Cond.selects RX2 yX2_dropBehind yX2_dropBehind, Cond.code yX2_dropBehind cX2_dropBehind 3 (some .int), Cond.methodLink RX3 94 yX3_doSteps, Cond.instanceMethod yX3_doSteps, Cond.selects RX3 yX3_doSteps yX3_doSteps, Cond.code yX3_doSteps cX3_doSteps 3 none, Cond.fieldLink RX3 16 "StateKeeper" "driftList" "LStateKeeper$Drifts;", Cond.fieldLink RX3 150 "StateKeeper" "stepsDone" "I", Cond.fieldLink RX3 69 "StateKeeper" "interval" "I", Cond.instanceMethod yX1_putIn, Cond.selects RX1 yX1_putIn yX1_putIn, Cond.code yX1_putIn cX1_putIn 6 none, Cond.methodLink RX1 43 yX1_changed, Cond.static yX1_changed, Cond.code yX1_changed cX1_changed 3 (some .float)]
def wsL_late_r5 : List Cond := [Cond.static yX3_held, Cond.code yX3_held cX3_held 1 (some .float), Cond.instanceMethod yX0_flow, Cond.initialized RX0, Cond.selects RX0 yX0_flow yX0_flow, Cond.code yX0_flow cX0_flow 4 none, Cond.fieldLink RX0 22 "StateKeeper$Drifts" "size" "I", Cond.fieldLink RX0 15 "StateKeeper$Drifts" "targets" "[I", Cond.fieldLink RX0 9 "StateKeeper$Drifts" "sources" "[I", Cond.fieldLink RX0 18 "StateKeeper$Drifts" "factors" "[F", Cond.methodLink RX3 97 yX3_keepPresent, Cond.instanceMethod yX3_keepPresent, Cond.selects RX3 yX3_keepPresent yX3_keepPresent, Cond.code yX3_keepPresent cX3_keepPresent 2 none, Cond.instanceMethod yX2_take, Cond.selects RX2 yX2_take yX2_take, Cond.code yX2_take cX2_take 6 (some .boolean), Cond.methodLink RX2 37 arraycopyName, Cond.instanceMethod yX1_dropBelow, Cond.selects RX1 yX1_dropBelow yX1_dropBelow, Cond.code yX1_dropBelow cX1_dropBelow 3 none]
def wsL_late : List Cond := .codeWith yL_late cL_late 7 (some .int) [(0, 14, 17, 13), (0, 14, 21, 15), (0, 14, 25, 17)] :: ((wsL_late_r1 ++ (wsL_late_r2 ++ (wsL_late_r3 ++ (wsL_late_r4 ++ wsL_late_r5)))) ++ wsX30 ++ wsX10 ++ wsX20 ++ wsX00 ++ (vx_atS RX3 45 "java/lang/IllegalArgumentException" ["java/lang/RuntimeException", "java/lang/Exception"]).filter goodWord ++ (vx_atS RX3 56 "java/lang/IllegalStateException" ["java/lang/RuntimeException", "java/lang/Exception"]).filter goodWord ++ (vx_atS RX3 130 "java/lang/IndexOutOfBoundsException" ["java/lang/RuntimeException", "java/lang/Exception"]).filter goodWord)
def wsL_cell_ : List Cond := .codeWith yL_cell_ cL_cell_ 4 (some .int) [(0, 9, 12, 13)] :: ([.classLink RL 13 "java/lang/IndexOutOfBoundsException", .methodLink RL 43 yX3_cell, .instanceMethod yX3_cell, .selects RX3 yX3_cell yX3_cell, .initialized RX3, .code yX3_cell cX3_cell 2 (some .float), .fieldLink RX3 9 "StateKeeper" "cells" "[F", .methodLink RX3 36 yX3_needCell, .instanceMethod yX3_needCell, .selects RX3 yX3_needCell yX3_needCell, .code yX3_needCell cX3_needCell 2 none, .classLink RX3 126 "java/lang/IndexOutOfBoundsException", .initialized "java/lang/IndexOutOfBoundsException"] ++ wsX30 ++ (vx_atS RX3 130 "java/lang/IndexOutOfBoundsException" ["java/lang/RuntimeException", "java/lang/Exception"]).filter goodWord)
def wsL_kept_r1 : List Cond := [Cond.classLink RL 13 "java/lang/IndexOutOfBoundsException", Cond.methodLink RL 47 yX3_kept, Cond.instanceMethod yX3_kept, Cond.selects RX3 yX3_kept yX3_kept, Cond.initialized RX3, Cond.code yX3_kept cX3_kept 3 (some .float), Cond.fieldLink RX3 32 "StateKeeper" "snapshots" "LStateKeeper$Snapshots;", Cond.methodLink RX3 36 yX3_needCell, Cond.instanceMethod yX3_needCell, Cond.selects RX3 yX3_needCell yX3_needCell, Cond.code yX3_needCell cX3_needCell 2 none, Cond.classLink RX3 126 "java/lang/IndexOutOfBoundsException", Cond.initialized "java/lang/IndexOutOfBoundsException", Cond.fieldLink RX3 9 "StateKeeper" "cells" "[F", Cond.methodLink RX3 101 yX3_neededSnapshot, Cond.instanceMethod yX3_neededSnapshot, Cond.selects RX3 yX3_neededSnapshot yX3_neededSnapshot, Cond.code yX3_neededSnapshot cX3_neededSnapshot 3 (some .int), Cond.instanceMethod yX2_find, Cond.initialized RX2, Cond.selects RX2 yX2_find yX2_find, Cond.code yX2_find cX2_find 3 (some .int), Cond.methodLink RX2 31 yX2_highestNotAbove, Cond.instanceMethod yX2_highestNotAbove]
def wsL_kept_r2 : List Cond := [Cond.selects RX2 yX2_highestNotAbove yX2_highestNotAbove, Cond.code yX2_highestNotAbove cX2_highestNotAbove 3 (some .int), Cond.fieldLink RX2 20 "StateKeeper$Snapshots" "size" "I", Cond.methodLink RX2 34 yX2_stepOf, Cond.instanceMethod yX2_stepOf, Cond.selects RX2 yX2_stepOf yX2_stepOf, Cond.code yX2_stepOf cX2_stepOf 2 (some .int), Cond.fieldLink RX2 9 "StateKeeper$Snapshots" "steps" "[I", Cond.methodLink RX2 27 yX2_slot, Cond.instanceMethod yX2_slot, Cond.selects RX2 yX2_slot yX2_slot, Cond.code yX2_slot cX2_slot 2 (some .int), Cond.fieldLink RX2 24 "StateKeeper$Snapshots" "first" "I", Cond.instanceMethod yX2_row, Cond.selects RX2 yX2_row yX2_row, Cond.code yX2_row cX2_row 2 (some (.array .float)), Cond.fieldLink RX2 17 "StateKeeper$Snapshots" "rows" "[[F"]
def wsL_kept : List Cond := .codeWith yL_kept cL_kept 5 (some .int) [(0, 10, 13, 13)] :: ((wsL_kept_r1 ++ wsL_kept_r2) ++ wsX30 ++ wsX20 ++ (vx_atS RX3 130 "java/lang/IndexOutOfBoundsException" ["java/lang/RuntimeException", "java/lang/Exception"]).filter goodWord)
def wsL_differs_r1 : List Cond := [Cond.classLink RL 13 "java/lang/IndexOutOfBoundsException", Cond.methodLink RL 51 yX3_differs, Cond.instanceMethod yX3_differs, Cond.selects RX3 yX3_differs yX3_differs, Cond.initialized RX3, Cond.code yX3_differs cX3_differs 4 (some .int), Cond.fieldLink RX3 32 "StateKeeper" "snapshots" "LStateKeeper$Snapshots;", Cond.fieldLink RX3 9 "StateKeeper" "cells" "[F", Cond.methodLink RX3 101 yX3_neededSnapshot, Cond.instanceMethod yX3_neededSnapshot, Cond.selects RX3 yX3_neededSnapshot yX3_neededSnapshot, Cond.code yX3_neededSnapshot cX3_neededSnapshot 3 (some .int), Cond.classLink RX3 126 "java/lang/IndexOutOfBoundsException", Cond.initialized "java/lang/IndexOutOfBoundsException", Cond.instanceMethod yX2_find, Cond.initialized RX2, Cond.selects RX2 yX2_find yX2_find, Cond.code yX2_find cX2_find 3 (some .int), Cond.methodLink RX2 31 yX2_highestNotAbove, Cond.instanceMethod yX2_highestNotAbove, Cond.selects RX2 yX2_highestNotAbove yX2_highestNotAbove, Cond.code yX2_highestNotAbove cX2_highestNotAbove 3 (some .int), Cond.fieldLink RX2 20 "StateKeeper$Snapshots" "size" "I", Cond.methodLink RX2 34 yX2_stepOf]
def wsL_differs_r2 : List Cond := [Cond.instanceMethod yX2_stepOf, Cond.selects RX2 yX2_stepOf yX2_stepOf, Cond.code yX2_stepOf cX2_stepOf 2 (some .int), Cond.fieldLink RX2 9 "StateKeeper$Snapshots" "steps" "[I", Cond.methodLink RX2 27 yX2_slot, Cond.instanceMethod yX2_slot, Cond.selects RX2 yX2_slot yX2_slot, Cond.code yX2_slot cX2_slot 2 (some .int), Cond.fieldLink RX2 24 "StateKeeper$Snapshots" "first" "I", Cond.instanceMethod yX2_row, Cond.selects RX2 yX2_row yX2_row, Cond.code yX2_row cX2_row 2 (some (.array .float)), Cond.fieldLink RX2 17 "StateKeeper$Snapshots" "rows" "[[F"]
def wsL_differs : List Cond := .codeWith yL_differs cL_differs 4 (some .int) [(0, 9, 12, 13)] :: ((wsL_differs_r1 ++ wsL_differs_r2) ++ wsX30 ++ wsX20 ++ (vx_atS RX3 130 "java/lang/IndexOutOfBoundsException" ["java/lang/RuntimeException", "java/lang/Exception"]).filter goodWord)
def wsL_snapshot : List Cond := .codeWith yL_snapshot cL_snapshot 4 (some .int) [(0, 9, 12, 13)] :: ([.classLink RL 13 "java/lang/IndexOutOfBoundsException", .methodLink RL 54 yX3_snapshot, .instanceMethod yX3_snapshot, .selects RX3 yX3_snapshot yX3_snapshot, .initialized RX3, .code yX3_snapshot cX3_snapshot 2 (some .int), .classLink RX3 126 "java/lang/IndexOutOfBoundsException", .initialized "java/lang/IndexOutOfBoundsException", .fieldLink RX3 32 "StateKeeper" "snapshots" "LStateKeeper$Snapshots;", .instanceMethod yX2_stepOf, .initialized RX2, .selects RX2 yX2_stepOf yX2_stepOf, .code yX2_stepOf cX2_stepOf 2 (some .int), .fieldLink RX2 9 "StateKeeper$Snapshots" "steps" "[I", .methodLink RX2 27 yX2_slot, .instanceMethod yX2_slot, .selects RX2 yX2_slot yX2_slot, .code yX2_slot cX2_slot 2 (some .int), .fieldLink RX2 24 "StateKeeper$Snapshots" "first" "I"] ++ wsX30 ++ wsX20 ++ (vx_atS RX3 130 "java/lang/IndexOutOfBoundsException" ["java/lang/RuntimeException", "java/lang/Exception"]).filter goodWord)
def wsL_record : List Cond := .codeWith yL_record cL_record 6 (some .int) [(0, 12, 15, 13)] :: ([.classLink RL 13 "java/lang/IndexOutOfBoundsException", .methodLink RL 57 yX3_record, .instanceMethod yX3_record, .selects RX3 yX3_record yX3_record, .initialized RX3, .code yX3_record cX3_record 5 (some .int), .classLink RX3 126 "java/lang/IndexOutOfBoundsException", .initialized "java/lang/IndexOutOfBoundsException", .fieldLink RX3 23 "StateKeeper" "inputRecord" "LStateKeeper$InputRecord;", .methodLink RX3 134 yX3_neededPlace, .instanceMethod yX3_neededPlace, .selects RX3 yX3_neededPlace yX3_neededPlace, .code yX3_neededPlace cX3_neededPlace 3 (some .int), .instanceMethod yX1_sizeOf, .initialized RX1, .selects RX1 yX1_sizeOf yX1_sizeOf, .code yX1_sizeOf cX1_sizeOf 2 (some .int), .methodLink RX1 29 yX1_sizeBelow, .instanceMethod yX1_sizeBelow, .selects RX1 yX1_sizeBelow yX1_sizeBelow, .code yX1_sizeBelow cX1_sizeBelow 6 (some .int), .fieldLink RX1 25 "StateKeeper$InputRecord" "size" "I", .fieldLink RX1 9 "StateKeeper$InputRecord" "steps" "[I"] ++ wsX30 ++ wsX10 ++ (vx_atS RX3 130 "java/lang/IndexOutOfBoundsException" ["java/lang/RuntimeException", "java/lang/Exception"]).filter goodWord)
def wsL_recorded : List Cond := .codeWith yL_recorded cL_recorded 5 (some .int) [(0, 10, 13, 13)] :: ([.classLink RL 13 "java/lang/IndexOutOfBoundsException", .methodLink RL 61 yX3_recorded, .instanceMethod yX3_recorded, .selects RX3 yX3_recorded yX3_recorded, .initialized RX3, .code yX3_recorded cX3_recorded 3 (some .float), .fieldLink RX3 23 "StateKeeper" "inputRecord" "LStateKeeper$InputRecord;", .methodLink RX3 134 yX3_neededPlace, .instanceMethod yX3_neededPlace, .selects RX3 yX3_neededPlace yX3_neededPlace, .code yX3_neededPlace cX3_neededPlace 3 (some .int), .classLink RX3 126 "java/lang/IndexOutOfBoundsException", .initialized "java/lang/IndexOutOfBoundsException", .instanceMethod yX1_sizeOf, .initialized RX1, .selects RX1 yX1_sizeOf yX1_sizeOf, .code yX1_sizeOf cX1_sizeOf 2 (some .int), .methodLink RX1 29 yX1_sizeBelow, .instanceMethod yX1_sizeBelow, .selects RX1 yX1_sizeBelow yX1_sizeBelow, .code yX1_sizeBelow cX1_sizeBelow 6 (some .int), .fieldLink RX1 25 "StateKeeper$InputRecord" "size" "I", .fieldLink RX1 9 "StateKeeper$InputRecord" "steps" "[I"] ++ wsX30 ++ wsX10 ++ (vx_atS RX3 130 "java/lang/IndexOutOfBoundsException" ["java/lang/RuntimeException", "java/lang/Exception"]).filter goodWord)
def wsL_count_r1 : List Cond := [Cond.classLink RL 13 "java/lang/IndexOutOfBoundsException", Cond.methodLink RL 64 yX3_count, Cond.instanceMethod yX3_count, Cond.selects RX3 yX3_count yX3_count, Cond.initialized RX3, Cond.code yX3_count cX3_count 2 (some .int), Cond.classLink RX3 126 "java/lang/IndexOutOfBoundsException", Cond.initialized "java/lang/IndexOutOfBoundsException", Cond.fieldLink RX3 57 "StateKeeper" "present" "I", Cond.fieldLink RX3 9 "StateKeeper" "cells" "[F", Cond.fieldLink RX3 32 "StateKeeper" "snapshots" "LStateKeeper$Snapshots;", Cond.fieldLink RX3 23 "StateKeeper" "inputRecord" "LStateKeeper$InputRecord;", Cond.fieldLink RX3 16 "StateKeeper" "driftList" "LStateKeeper$Drifts;", Cond.fieldLink RX3 150 "StateKeeper" "stepsDone" "I", Cond.instanceMethod yX1_sizeOf, Cond.initialized RX1, Cond.selects RX1 yX1_sizeOf yX1_sizeOf, Cond.code yX1_sizeOf cX1_sizeOf 2 (some .int), Cond.methodLink RX1 29 yX1_sizeBelow, Cond.instanceMethod yX1_sizeBelow, Cond.selects RX1 yX1_sizeBelow yX1_sizeBelow, Cond.code yX1_sizeBelow cX1_sizeBelow 6 (some .int), Cond.fieldLink RX1 25 "StateKeeper$InputRecord" "size" "I", Cond.fieldLink RX1 9 "StateKeeper$InputRecord" "steps" "[I"]
def wsL_count_r2 : List Cond := [Cond.methodLink RX3 153 yX3_cellsNotZero, Cond.instanceMethod yX3_cellsNotZero, Cond.selects RX3 yX3_cellsNotZero yX3_cellsNotZero, Cond.code yX3_cellsNotZero cX3_cellsNotZero 3 (some .int)]
def wsL_count : List Cond := .codeWith yL_count cL_count 4 (some .int) [(0, 9, 12, 13)] :: ((wsL_count_r1 ++ wsL_count_r2) ++ wsX30 ++ wsX20 ++ wsX10 ++ wsX00 ++ (vx_atS RX3 130 "java/lang/IndexOutOfBoundsException" ["java/lang/RuntimeException", "java/lang/Exception"]).filter goodWord)
def wsL_law0_r1 : List Cond := [Cond.classLink RL 8 RX3, Cond.instantiable RX3 7, Cond.initialized RX3, Cond.classLink RL 75 RX4, Cond.instantiable RX4 18, Cond.initialized RX4, Cond.arrayClass .long, Cond.arrayClass .double, Cond.constantFloat RL 78 (1040187392), Cond.methodLink RL 67 yL_cell, Cond.static yL_cell, Cond.initialized RL, Cond.code yL_cell cL_cell 2 (some .int), Cond.methodLink RL 72 yX3_init, Cond.instanceMethod yX3_init, Cond.code yX3_init cX3_init 3 none, Cond.methodLink RX3 1 objectInit, Cond.instanceMethod objectInit, Cond.code objectInit ⟨#[0xb1]⟩ 1 none, Cond.arrayClass .float, Cond.fieldLink RX3 9 "StateKeeper" "cells" "[F", Cond.classLink RX3 13 RX0, Cond.instantiable RX0 4, Cond.initialized RX0]
def wsL_law0_r2 : List Cond := [Cond.fieldLink RX3 16 "StateKeeper" "driftList" "LStateKeeper$Drifts;", Cond.classLink RX3 20 RX1, Cond.instantiable RX1 5, Cond.initialized RX1, Cond.fieldLink RX3 23 "StateKeeper" "inputRecord" "LStateKeeper$InputRecord;", Cond.classLink RX3 27 RX2, Cond.instantiable RX2 4, Cond.initialized RX2, Cond.fieldLink RX3 32 "StateKeeper" "snapshots" "LStateKeeper$Snapshots;", Cond.instanceMethod yX0_init, Cond.code yX0_init cX0_init 1 none, Cond.methodLink RX0 3 objectInit, Cond.arrayClass .int, Cond.fieldLink RX0 9 "StateKeeper$Drifts" "sources" "[I", Cond.fieldLink RX0 15 "StateKeeper$Drifts" "targets" "[I", Cond.fieldLink RX0 18 "StateKeeper$Drifts" "factors" "[F", Cond.instanceMethod yX1_init, Cond.code yX1_init cX1_init 1 none, Cond.methodLink RX1 3 objectInit, Cond.fieldLink RX1 9 "StateKeeper$InputRecord" "steps" "[I", Cond.fieldLink RX1 15 "StateKeeper$InputRecord" "targets" "[I", Cond.fieldLink RX1 18 "StateKeeper$InputRecord" "ways" "[I", Cond.fieldLink RX1 21 "StateKeeper$InputRecord" "numbers" "[F", Cond.instanceMethod yX2_init]
def wsL_law0_r3 : List Cond := [Cond.code yX2_init cX2_init 2 none, Cond.methodLink RX2 3 objectInit, Cond.fieldLink RX2 9 "StateKeeper$Snapshots" "steps" "[I", Cond.classLink RX2 15 "[[F", Cond.fieldLink RX2 17 "StateKeeper$Snapshots" "rows" "[[F", Cond.fieldLink RX2 20 "StateKeeper$Snapshots" "size" "I", Cond.methodLink RL 77 yX4_init, Cond.instanceMethod yX4_init, Cond.code yX4_init cX4_init 2 none, Cond.methodLink RX4 1 objectInit, Cond.fieldLink RX4 7 "StateKeeperModel" "cells" "[F", Cond.fieldLink RX4 13 "StateKeeperModel" "from" "[I", Cond.fieldLink RX4 17 "StateKeeperModel" "to" "[I", Cond.fieldLink RX4 20 "StateKeeperModel" "factors" "[F", Cond.fieldLink RX4 23 "StateKeeperModel" "steps" "[I", Cond.fieldLink RX4 26 "StateKeeperModel" "which" "[I", Cond.fieldLink RX4 29 "StateKeeperModel" "ways" "[I", Cond.fieldLink RX4 32 "StateKeeperModel" "values" "[F", Cond.fieldLink RX4 35 "StateKeeperModel" "keptSteps" "[I", Cond.fieldLink RX4 38 "StateKeeperModel" "keptCells" "[F", Cond.fieldLink RX4 41 "StateKeeperModel" "n" "I", Cond.methodLink RX4 45 yX4_keepNow, Cond.instanceMethod yX4_keepNow, Cond.selects RX4 yX4_keepNow yX4_keepNow]
def wsL_law0_r4 : List Cond := [Cond.code yX4_keepNow cX4_keepNow 3 none, Cond.fieldLink RX4 62 "StateKeeperModel" "now" "I", Cond.fieldLink RX4 101 "StateKeeperModel" "snapshots" "I", Cond.methodLink RX4 104 yX4_placeOf, Cond.instanceMethod yX4_placeOf, Cond.selects RX4 yX4_placeOf yX4_placeOf, Cond.code yX4_placeOf cX4_placeOf 3 (some .int), Cond.methodLink RX4 107 yX4_moveDown, Cond.instanceMethod yX4_moveDown, Cond.selects RX4 yX4_moveDown yX4_moveDown, Cond.code yX4_moveDown cX4_moveDown 3 none, Cond.methodLink RX4 110 yX4_drop, Cond.instanceMethod yX4_drop, Cond.selects RX4 yX4_drop yX4_drop, Cond.code yX4_drop cX4_drop 6 (some .int), Cond.fieldLink RX4 65 "StateKeeperModel" "inputs" "I", Cond.methodLink RL 79 yL_drift, Cond.static yL_drift, Cond.codeWith yL_drift cL_drift 6 (some .int) [(0, 12, 15, 13), (0, 12, 19, 15), (0, 12, 23, 17)], Cond.classLink RL 13 "java/lang/IndexOutOfBoundsException", Cond.classLink RL 15 "java/lang/IllegalArgumentException", Cond.classLink RL 17 "java/lang/IllegalStateException", Cond.methodLink RL 7 yX3_drift, Cond.instanceMethod yX3_drift]
def wsL_law0_r5 : List Cond := [Cond.selects RX3 yX3_drift yX3_drift, Cond.code yX3_drift cX3_drift 4 (some .int), Cond.classLink RX3 41 "java/lang/IllegalArgumentException", Cond.initialized "java/lang/IllegalArgumentException", Cond.classLink RX3 52 "java/lang/IllegalStateException", Cond.initialized "java/lang/IllegalStateException", Cond.constantFloat RX3 39 (3229614080), Cond.constantFloat RX3 40 (1082130432), Cond.fieldLink RX3 57 "StateKeeper" "present" "I", Cond.methodLink RX3 36 yX3_needCell, Cond.instanceMethod yX3_needCell, Cond.selects RX3 yX3_needCell yX3_needCell, Cond.code yX3_needCell cX3_needCell 2 none, Cond.classLink RX3 126 "java/lang/IndexOutOfBoundsException", Cond.initialized "java/lang/IndexOutOfBoundsException", Cond.instanceMethod yX0_append, Cond.selects RX0 yX0_append yX0_append, Cond.code yX0_append cX0_append 4 none, Cond.fieldLink RX0 22 "StateKeeper$Drifts" "size" "I", Cond.methodLink RL 82 yX4_drift, Cond.instanceMethod yX4_drift, Cond.selects RX4 yX4_drift yX4_drift, Cond.code yX4_drift cX4_drift 4 (some .int), Cond.constantFloat RX4 57 (3229614080)]
def wsL_law0_r6 : List Cond := [Cond.constantFloat RX4 58 (1082130432), Cond.fieldLink RX4 59 "StateKeeperModel" "drifts" "I", Cond.methodLink RX4 53 yX4_known, Cond.instanceMethod yX4_known, Cond.selects RX4 yX4_known yX4_known, Cond.code yX4_known cX4_known 2 (some .boolean), Cond.methodLink RX4 68 yX4_goes, Cond.instanceMethod yX4_goes, Cond.selects RX4 yX4_goes yX4_goes, Cond.code yX4_goes cX4_goes 4 (some .boolean), Cond.fieldLink RX4 48 "StateKeeperModel" "thrown" "I", Cond.methodLink RL 83 yX4_thrown, Cond.instanceMethod yX4_thrown, Cond.selects RX4 yX4_thrown yX4_thrown, Cond.code yX4_thrown cX4_thrown 1 (some .int), Cond.methodLink RL 87 yL_every, Cond.static yL_every, Cond.codeWith yL_every cL_every 4 (some .int) [(0, 9, 12, 15)], Cond.methodLink RL 19 yX3_every, Cond.instanceMethod yX3_every, Cond.selects RX3 yX3_every yX3_every, Cond.code yX3_every cX3_every 3 (some .int), Cond.fieldLink RX3 69 "StateKeeper" "interval" "I", Cond.methodLink RL 90 yX4_every]
def wsL_law0_r7 : List Cond := [Cond.instanceMethod yX4_every, Cond.selects RX4 yX4_every yX4_every, Cond.code yX4_every cX4_every 3 (some .int), Cond.fieldLink RX4 72 "StateKeeperModel" "every" "I", Cond.methodLink RL 91 yL_input, Cond.static yL_input, Cond.codeWith yL_input cL_input 6 (some .int) [(0, 12, 15, 13), (0, 12, 19, 15), (0, 12, 23, 17)], Cond.methodLink RL 23 yX3_input, Cond.instanceMethod yX3_input, Cond.selects RX3 yX3_input yX3_input, Cond.code yX3_input cX3_input 4 (some .int), Cond.methodLink RX3 72 yX3_needWayAndNumber, Cond.static yX3_needWayAndNumber, Cond.code yX3_needWayAndNumber cX3_needWayAndNumber 2 none, Cond.constantFloat RX3 189 (3347054592), Cond.constantFloat RX3 190 (1199570944), Cond.methodLink RX3 76 yX3_needRoom, Cond.instanceMethod yX3_needRoom, Cond.selects RX3 yX3_needRoom yX3_needRoom, Cond.code yX3_needRoom cX3_needRoom 2 none, Cond.instanceMethod yX1_append, Cond.selects RX1 yX1_append yX1_append, Cond.code yX1_append cX1_append 6 none, Cond.fieldLink RX1 25 "StateKeeper$InputRecord" "size" "I"]
def wsL_law0_r8 : List Cond := [Cond.methodLink RX1 29 yX1_sizeBelow, Cond.instanceMethod yX1_sizeBelow, Cond.selects RX1 yX1_sizeBelow yX1_sizeBelow, Cond.code yX1_sizeBelow cX1_sizeBelow 6 (some .int), Cond.methodLink RX1 33 yX1_moveRest, Cond.instanceMethod yX1_moveRest, Cond.selects RX1 yX1_moveRest yX1_moveRest, Cond.code yX1_moveRest cX1_moveRest 4 none, Cond.methodLink RX1 37 arraycopyName, Cond.native arraycopyName, Cond.static arraycopyName, Cond.initialized "java/lang/System", Cond.instanceMethod yX1_sizeOf, Cond.selects RX1 yX1_sizeOf yX1_sizeOf, Cond.code yX1_sizeOf cX1_sizeOf 2 (some .int), Cond.methodLink RL 93 yX4_input, Cond.instanceMethod yX4_input, Cond.selects RX4 yX4_input yX4_input, Cond.code yX4_input cX4_input 4 (some .int), Cond.methodLink RX4 75 yX4_within, Cond.static yX4_within, Cond.code yX4_within cX4_within 1 (some .boolean), Cond.constantFloat RX4 51 (3347054592), Cond.constantFloat RX4 52 (1199570944)]
def wsL_law0_r9 : List Cond := [Cond.methodLink RX4 79 yX4_put, Cond.instanceMethod yX4_put, Cond.selects RX4 yX4_put yX4_put, Cond.code yX4_put cX4_put 5 none, Cond.methodLink RX4 83 yX4_inputsOf, Cond.instanceMethod yX4_inputsOf, Cond.selects RX4 yX4_inputsOf yX4_inputsOf, Cond.code yX4_inputsOf cX4_inputsOf 4 (some .int), Cond.methodLink RL 94 yL_inputs, Cond.static yL_inputs, Cond.codeWith yL_inputs cL_inputs 8 (some .int) [(0, 16, 19, 13), (0, 16, 23, 15), (0, 16, 27, 17)], Cond.methodLink RL 26 yX3_inputs, Cond.instanceMethod yX3_inputs, Cond.selects RX3 yX3_inputs yX3_inputs, Cond.code yX3_inputs cX3_inputs 7 (some .int), Cond.methodLink RX3 88 yX3_needLastCell, Cond.instanceMethod yX3_needLastCell, Cond.selects RX3 yX3_needLastCell yX3_needLastCell, Cond.code yX3_needLastCell cX3_needLastCell 6 none, Cond.methodLink RL 97 yX4_inputs, Cond.instanceMethod yX4_inputs, Cond.selects RX4 yX4_inputs yX4_inputs, Cond.code yX4_inputs cX4_inputs 11 (some .int), Cond.methodLink RL 98 yL_step]
def wsL_law0_r10 : List Cond := [Cond.static yL_step, Cond.codeWith yL_step cL_step 4 (some .int) [(0, 9, 12, 15)], Cond.methodLink RL 30 yX3_step, Cond.instanceMethod yX3_step, Cond.selects RX3 yX3_step yX3_step, Cond.code yX3_step cX3_step 2 (some .int), Cond.methodLink RX3 94 yX3_doSteps, Cond.instanceMethod yX3_doSteps, Cond.selects RX3 yX3_doSteps yX3_doSteps, Cond.code yX3_doSteps cX3_doSteps 3 none, Cond.fieldLink RX3 150 "StateKeeper" "stepsDone" "I", Cond.instanceMethod yX1_putIn, Cond.selects RX1 yX1_putIn yX1_putIn, Cond.code yX1_putIn cX1_putIn 6 none, Cond.methodLink RX1 43 yX1_changed, Cond.static yX1_changed, Cond.code yX1_changed cX1_changed 3 (some .float), Cond.static yX3_held, Cond.code yX3_held cX3_held 1 (some .float), Cond.instanceMethod yX0_flow, Cond.selects RX0 yX0_flow yX0_flow, Cond.code yX0_flow cX0_flow 4 none, Cond.methodLink RX3 97 yX3_keepPresent, Cond.instanceMethod yX3_keepPresent]
def wsL_law0_r11 : List Cond := [Cond.selects RX3 yX3_keepPresent yX3_keepPresent, Cond.code yX3_keepPresent cX3_keepPresent 2 none, Cond.instanceMethod yX2_take, Cond.selects RX2 yX2_take yX2_take, Cond.code yX2_take cX2_take 6 (some .boolean), Cond.fieldLink RX2 24 "StateKeeper$Snapshots" "first" "I", Cond.methodLink RX2 37 arraycopyName, Cond.methodLink RX2 34 yX2_stepOf, Cond.instanceMethod yX2_stepOf, Cond.selects RX2 yX2_stepOf yX2_stepOf, Cond.code yX2_stepOf cX2_stepOf 2 (some .int), Cond.methodLink RX2 27 yX2_slot, Cond.instanceMethod yX2_slot, Cond.selects RX2 yX2_slot yX2_slot, Cond.code yX2_slot cX2_slot 2 (some .int), Cond.instanceMethod yX1_dropBelow, Cond.selects RX1 yX1_dropBelow yX1_dropBelow, Cond.code yX1_dropBelow cX1_dropBelow 3 none, Cond.methodLink RL 100 yX4_step, Cond.instanceMethod yX4_step, Cond.selects RX4 yX4_step yX4_step, Cond.code yX4_step cX4_step 3 (some .int), Cond.methodLink RX4 98 yX4_once, Cond.instanceMethod yX4_once]
def wsL_law0_r12 : List Cond := [Cond.selects RX4 yX4_once yX4_once, Cond.code yX4_once cX4_once 2 none, Cond.fieldLink RX4 95 "StateKeeperModel" "done" "I", Cond.methodLink RX4 91 yX4_act, Cond.instanceMethod yX4_act, Cond.selects RX4 yX4_act yX4_act, Cond.code yX4_act cX4_act 3 none, Cond.methodLink RX4 87 yX4_held, Cond.static yX4_held, Cond.code yX4_held cX4_held 1 (some .float), Cond.methodLink RL 101 yX3_keep, Cond.instanceMethod yX3_keep, Cond.selects RX3 yX3_keep yX3_keep, Cond.code yX3_keep cX3_keep 1 (some .int), Cond.methodLink RL 104 yX4_keep, Cond.instanceMethod yX4_keep, Cond.selects RX4 yX4_keep yX4_keep, Cond.code yX4_keep cX4_keep 1 (some .int), Cond.methodLink RL 105 yL_back, Cond.static yL_back, Cond.codeWith yL_back cL_back 4 (some .int) [(0, 9, 12, 13)], Cond.methodLink RL 33 yX3_back, Cond.instanceMethod yX3_back, Cond.selects RX3 yX3_back yX3_back]
def wsL_law0_r13 : List Cond := [Cond.code yX3_back cX3_back 2 (some .int), Cond.methodLink RX3 101 yX3_neededSnapshot, Cond.instanceMethod yX3_neededSnapshot, Cond.selects RX3 yX3_neededSnapshot yX3_neededSnapshot, Cond.code yX3_neededSnapshot cX3_neededSnapshot 3 (some .int), Cond.instanceMethod yX2_find, Cond.selects RX2 yX2_find yX2_find, Cond.code yX2_find cX2_find 3 (some .int), Cond.methodLink RX2 31 yX2_highestNotAbove, Cond.instanceMethod yX2_highestNotAbove, Cond.selects RX2 yX2_highestNotAbove yX2_highestNotAbove, Cond.code yX2_highestNotAbove cX2_highestNotAbove 3 (some .int), Cond.methodLink RX3 104 yX3_goBackTo, Cond.instanceMethod yX3_goBackTo, Cond.selects RX3 yX3_goBackTo yX3_goBackTo, Cond.code yX3_goBackTo cX3_goBackTo 2 (some .int), Cond.methodLink RX3 174 arraycopyName, Cond.instanceMethod yX2_row, Cond.selects RX2 yX2_row yX2_row, Cond.code yX2_row cX2_row 2 (some (.array .float)), Cond.instanceMethod yX2_dropBehind, Cond.selects RX2 yX2_dropBehind yX2_dropBehind, Cond.code yX2_dropBehind cX2_dropBehind 3 (some .int), Cond.methodLink RL 107 yX4_back]
def wsL_law0_r14 : List Cond := [Cond.instanceMethod yX4_back, Cond.selects RX4 yX4_back yX4_back, Cond.code yX4_back cX4_back 3 (some .int), Cond.methodLink RX4 114 yX4_goBack, Cond.instanceMethod yX4_goBack, Cond.selects RX4 yX4_goBack yX4_goBack, Cond.code yX4_goBack cX4_goBack 4 (some .int), Cond.methodLink RL 108 yL_forget, Cond.static yL_forget, Cond.codeWith yL_forget cL_forget 4 (some .int) [(0, 9, 12, 15)], Cond.methodLink RL 36 yX3_forget, Cond.instanceMethod yX3_forget, Cond.selects RX3 yX3_forget yX3_forget, Cond.code yX3_forget cX3_forget 2 (some .int), Cond.instanceMethod yX1_dropFrom, Cond.selects RX1 yX1_dropFrom yX1_dropFrom, Cond.code yX1_dropFrom cX1_dropFrom 3 (some .int), Cond.methodLink RL 110 yX4_forget, Cond.instanceMethod yX4_forget, Cond.selects RX4 yX4_forget yX4_forget, Cond.code yX4_forget cX4_forget 2 (some .int), Cond.constant RX4 117 (2147483647), Cond.methodLink RL 111 yL_late, Cond.static yL_late]
def wsL_law0_r15 : List Cond := [Cond.codeWith yL_late cL_late 7 (some .int) [(0, 14, 17, 13), (0, 14, 21, 15), (0, 14, 25, 17)], Cond.methodLink RL 39 yX3_late, Cond.instanceMethod yX3_late, Cond.selects RX3 yX3_late yX3_late, Cond.code yX3_late cX3_late 6 (some .int), Cond.methodLink RX3 119 yX3_stepAgainFrom, Cond.instanceMethod yX3_stepAgainFrom, Cond.selects RX3 yX3_stepAgainFrom yX3_stepAgainFrom, Cond.code yX3_stepAgainFrom cX3_stepAgainFrom 4 (some .int), Cond.methodLink RL 114 yX4_late, Cond.instanceMethod yX4_late, Cond.selects RX4 yX4_late yX4_late, Cond.code yX4_late cX4_late 11 (some .int), Cond.methodLink RX4 118 yX4_highest, Cond.instanceMethod yX4_highest, Cond.selects RX4 yX4_highest yX4_highest, Cond.code yX4_highest cX4_highest 4 (some .int), Cond.methodLink RL 115 yL_cell_, Cond.static yL_cell_, Cond.codeWith yL_cell_ cL_cell_ 4 (some .int) [(0, 9, 12, 13)], Cond.methodLink RL 43 yX3_cell, Cond.instanceMethod yX3_cell, Cond.selects RX3 yX3_cell yX3_cell, Cond.code yX3_cell cX3_cell 2 (some .float)]
def wsL_law0_r16 : List Cond := [Cond.methodLink RL 118 yX4_cell, Cond.instanceMethod yX4_cell, Cond.selects RX4 yX4_cell yX4_cell, Cond.code yX4_cell cX4_cell 2 (some .float), Cond.methodLink RL 119 yL_kept, Cond.static yL_kept, Cond.codeWith yL_kept cL_kept 5 (some .int) [(0, 10, 13, 13)], Cond.methodLink RL 47 yX3_kept, Cond.instanceMethod yX3_kept, Cond.selects RX3 yX3_kept yX3_kept, Cond.code yX3_kept cX3_kept 3 (some .float), Cond.methodLink RL 122 yX4_kept, Cond.instanceMethod yX4_kept, Cond.selects RX4 yX4_kept yX4_kept, Cond.code yX4_kept cX4_kept 4 (some .float), Cond.methodLink RL 123 yL_differs, Cond.static yL_differs, Cond.codeWith yL_differs cL_differs 4 (some .int) [(0, 9, 12, 13)], Cond.methodLink RL 51 yX3_differs, Cond.instanceMethod yX3_differs, Cond.selects RX3 yX3_differs yX3_differs, Cond.code yX3_differs cX3_differs 4 (some .int), Cond.methodLink RL 125 yX4_differs, Cond.instanceMethod yX4_differs]
def wsL_law0_r17 : List Cond := [Cond.selects RX4 yX4_differs yX4_differs, Cond.code yX4_differs cX4_differs 4 (some .int), Cond.methodLink RL 126 yL_snapshot, Cond.static yL_snapshot, Cond.codeWith yL_snapshot cL_snapshot 4 (some .int) [(0, 9, 12, 13)], Cond.methodLink RL 54 yX3_snapshot, Cond.instanceMethod yX3_snapshot, Cond.selects RX3 yX3_snapshot yX3_snapshot, Cond.code yX3_snapshot cX3_snapshot 2 (some .int), Cond.methodLink RL 128 yX4_snapshot, Cond.instanceMethod yX4_snapshot, Cond.selects RX4 yX4_snapshot yX4_snapshot, Cond.code yX4_snapshot cX4_snapshot 2 (some .int), Cond.methodLink RL 129 yL_record, Cond.static yL_record, Cond.codeWith yL_record cL_record 6 (some .int) [(0, 12, 15, 13)], Cond.methodLink RL 57 yX3_record, Cond.instanceMethod yX3_record, Cond.selects RX3 yX3_record yX3_record, Cond.code yX3_record cX3_record 5 (some .int), Cond.methodLink RX3 134 yX3_neededPlace, Cond.instanceMethod yX3_neededPlace, Cond.selects RX3 yX3_neededPlace yX3_neededPlace, Cond.code yX3_neededPlace cX3_neededPlace 3 (some .int)]
def wsL_law0_r18 : List Cond := [Cond.methodLink RL 132 yX4_record, Cond.instanceMethod yX4_record, Cond.selects RX4 yX4_record yX4_record, Cond.code yX4_record cX4_record 5 (some .int), Cond.methodLink RX4 121 yX4_find, Cond.instanceMethod yX4_find, Cond.selects RX4 yX4_find yX4_find, Cond.code yX4_find cX4_find 5 (some .int), Cond.methodLink RL 133 yL_recorded, Cond.static yL_recorded, Cond.codeWith yL_recorded cL_recorded 5 (some .int) [(0, 10, 13, 13)], Cond.methodLink RL 61 yX3_recorded, Cond.instanceMethod yX3_recorded, Cond.selects RX3 yX3_recorded yX3_recorded, Cond.code yX3_recorded cX3_recorded 3 (some .float), Cond.methodLink RL 135 yX4_recorded, Cond.instanceMethod yX4_recorded, Cond.selects RX4 yX4_recorded yX4_recorded, Cond.code yX4_recorded cX4_recorded 4 (some .float), Cond.methodLink RL 136 yL_count, Cond.static yL_count, Cond.codeWith yL_count cL_count 4 (some .int) [(0, 9, 12, 13)], Cond.methodLink RL 64 yX3_count, Cond.instanceMethod yX3_count]
def wsL_law0_r19 : List Cond := [Cond.selects RX3 yX3_count yX3_count, Cond.code yX3_count cX3_count 2 (some .int), Cond.methodLink RX3 153 yX3_cellsNotZero, Cond.instanceMethod yX3_cellsNotZero, Cond.selects RX3 yX3_cellsNotZero yX3_cellsNotZero, Cond.code yX3_cellsNotZero cX3_cellsNotZero 3 (some .int), Cond.methodLink RL 138 yX4_count, Cond.instanceMethod yX4_count, Cond.selects RX4 yX4_count yX4_count, Cond.code yX4_count cX4_count 4 (some .int), Cond.methodLink RL 139 yX3_sum, Cond.instanceMethod yX3_sum, Cond.selects RX3 yX3_sum yX3_sum, Cond.code yX3_sum cX3_sum 3 (some .float), Cond.methodLink RL 143 yX4_sum, Cond.instanceMethod yX4_sum, Cond.selects RX4 yX4_sum yX4_sum, Cond.code yX4_sum cX4_sum 3 (some .float)]
def wsL_law0 : List Cond := (wsL_law0_r1 ++ (wsL_law0_r2 ++ (wsL_law0_r3 ++ (wsL_law0_r4 ++ (wsL_law0_r5 ++ (wsL_law0_r6 ++ (wsL_law0_r7 ++ (wsL_law0_r8 ++ (wsL_law0_r9 ++ (wsL_law0_r10 ++ (wsL_law0_r11 ++ (wsL_law0_r12 ++ (wsL_law0_r13 ++ (wsL_law0_r14 ++ (wsL_law0_r15 ++ (wsL_law0_r16 ++ (wsL_law0_r17 ++ (wsL_law0_r18 ++ wsL_law0_r19)))))))))))))))))) ++ wsX30 ++ wsX40 ++ wsX00 ++ wsX10 ++ wsX20 ++ ([] : List Cond)
def wsL_law : List Cond := wsL_law0 ++ (vx_atS RX3 45 "java/lang/IllegalArgumentException" ["java/lang/RuntimeException", "java/lang/Exception"]).filter goodWord ++ (vx_atS RX3 56 "java/lang/IllegalStateException" ["java/lang/RuntimeException", "java/lang/Exception"]).filter goodWord ++ (vx_atS RX3 130 "java/lang/IndexOutOfBoundsException" ["java/lang/RuntimeException", "java/lang/Exception"]).filter goodWord
theorem mem_r {big ws : List Cond} (ps : List Nat) (hp : ws = ps.filterMap (fun i => big[i]?)) : ∀ w ∈ ws, w ∈ big := by
  intro w hw
  rw [hp] at hw
  obtain ⟨i, -, hi⟩ := List.mem_filterMap.mp hw
  exact List.mem_of_getElem? hi
set_option maxRecDepth 20000 in
theorem wsL_i1 : ∀ w ∈ wsL_law0_r1, w ∈ lw_tbl := mem_r [53, 54, 41, 514, 515, 45, 711, 712, 710, 194, 195, 40, 196, 55, 56, 57, 58, 59, 60, 81, 131, 61, 62, 42] (by decide +kernel)
set_option maxRecDepth 20000 in
theorem wsL_i2 : ∀ w ∈ wsL_law0_r2, w ∈ lw_tbl := mem_r [132, 83, 84, 43, 133, 109, 110, 44, 134, 64, 65, 66, 82, 67, 68, 69, 86, 87, 88, 89, 90, 92, 94, 112] (by decide +kernel)
set_option maxRecDepth 20000 in
theorem wsL_i3 : ∀ w ∈ wsL_law0_r3, w ∈ lw_tbl := mem_r [113, 114, 117, 115, 118, 120, 516, 517, 518, 519, 538, 543, 544, 545, 547, 548, 549, 550, 552, 553, 537, 520, 522, 27] (by decide +kernel)
set_option maxRecDepth 20000 in
theorem wsL_i4 : ∀ w ∈ wsL_law0_r4, w ∈ lw_tbl := mem_r [523, 539, 551, 524, 526, 28, 527, 528, 530, 29, 531, 532, 534, 30, 535, 546, 197, 198, 199, 200, 201, 202, 203, 204] (by decide +kernel)
set_option maxRecDepth 20000 in
theorem wsL_i5 : ∀ w ∈ wsL_law0_r5, w ∈ lw_tbl := mem_r [205, 206, 281, 50, 297, 51, 279, 280, 135, 207, 209, 7, 210, 211, 49, 316, 9, 317, 70, 595, 596, 597, 598, 603] (by decide +kernel)
set_option maxRecDepth 20000 in
theorem wsL_i6 : ∀ w ∈ wsL_law0_r6, w ∈ lw_tbl := mem_r [604, 542, 599, 601, 31, 602, 605, 607, 32, 608, 536, 591, 592, 593, 594, 318, 319, 320, 321, 322, 323, 324, 136, 609] (by decide +kernel)
set_option maxRecDepth 20000 in
theorem wsL_i7 : ∀ w ∈ wsL_law0_r7, w ∈ lw_tbl := mem_r [610, 611, 612, 540, 326, 327, 328, 329, 330, 331, 332, 333, 334, 335, 337, 338, 340, 342, 10, 343, 347, 11, 348, 96] (by decide +kernel)
set_option maxRecDepth 20000 in
theorem wsL_i8 : ∀ w ∈ wsL_law0_r8, w ∈ lw_tbl := mem_r [181, 183, 5, 184, 185, 187, 6, 188, 189, 175, 174, 52, 351, 12, 352, 613, 614, 615, 616, 617, 618, 619, 620, 621] (by decide +kernel)
set_option maxRecDepth 20000 in
theorem wsL_i9 : ∀ w ∈ wsL_law0_r9, w ∈ lw_tbl := mem_r [622, 624, 33, 625, 626, 628, 34, 629, 353, 354, 355, 356, 357, 358, 359, 361, 363, 13, 364, 630, 631, 632, 633, 366] (by decide +kernel)
set_option maxRecDepth 20000 in
theorem wsL_i10 : ∀ w ∈ wsL_law0_r10, w ∈ lw_tbl := mem_r [367, 368, 369, 370, 371, 372, 374, 376, 14, 377, 137, 380, 15, 381, 382, 383, 384, 386, 387, 390, 16, 391, 157, 159] (by decide +kernel)
set_option maxRecDepth 20000 in
theorem wsL_i11 : ∀ w ∈ wsL_law0_r11, w ∈ lw_tbl := mem_r [0, 160, 163, 1, 164, 119, 173, 165, 167, 2, 168, 169, 171, 3, 172, 179, 4, 180, 634, 635, 636, 637, 638, 640] (by decide +kernel)
set_option maxRecDepth 20000 in
theorem wsL_i12 : ∀ w ∈ wsL_law0_r12, w ∈ lw_tbl := mem_r [35, 641, 541, 642, 644, 36, 645, 646, 647, 648, 153, 154, 155, 156, 649, 650, 651, 652, 393, 394, 395, 396, 397, 398] (by decide +kernel)
set_option maxRecDepth 20000 in
theorem wsL_i13 : ∀ w ∈ wsL_law0_r13, w ∈ lw_tbl := mem_r [399, 400, 402, 17, 403, 406, 18, 407, 408, 410, 19, 411, 413, 415, 20, 416, 421, 419, 21, 420, 424, 22, 425, 653] (by decide +kernel)
set_option maxRecDepth 20000 in
theorem wsL_i14 : ∀ w ∈ wsL_law0_r14, w ∈ lw_tbl := mem_r [654, 655, 656, 657, 659, 37, 660, 426, 427, 428, 429, 430, 431, 432, 436, 23, 437, 661, 662, 663, 664, 665, 438, 439] (by decide +kernel)
set_option maxRecDepth 20000 in
theorem wsL_i15 : ∀ w ∈ wsL_law0_r15, w ∈ lw_tbl := mem_r [440, 441, 442, 443, 444, 448, 450, 24, 451, 666, 667, 668, 669, 670, 672, 38, 673, 452, 453, 454, 455, 456, 457, 458] (by decide +kernel)
set_option maxRecDepth 20000 in
theorem wsL_i16 : ∀ w ∈ wsL_law0_r16, w ∈ lw_tbl := mem_r [674, 675, 676, 677, 459, 460, 461, 462, 463, 464, 465, 678, 679, 680, 681, 466, 467, 468, 469, 470, 471, 472, 682, 683] (by decide +kernel)
set_option maxRecDepth 20000 in
theorem wsL_i17 : ∀ w ∈ wsL_law0_r17, w ∈ lw_tbl := mem_r [684, 685, 473, 474, 475, 476, 477, 478, 479, 686, 687, 688, 689, 481, 482, 483, 484, 485, 486, 487, 488, 490, 25, 491] (by decide +kernel)
set_option maxRecDepth 20000 in
theorem wsL_i18 : ∀ w ∈ wsL_law0_r18, w ∈ lw_tbl := mem_r [690, 691, 692, 693, 694, 696, 39, 697, 495, 496, 497, 498, 499, 500, 501, 698, 699, 700, 701, 502, 503, 504, 505, 506] (by decide +kernel)
set_option maxRecDepth 20000 in
theorem wsL_i19 : ∀ w ∈ wsL_law0_r19, w ∈ lw_tbl := mem_r [507, 508, 509, 511, 26, 512, 702, 703, 704, 705, 190, 191, 192, 193, 706, 707, 708, 709] (by decide +kernel)
set_option maxRecDepth 20000 in
theorem wsL_iX3 : ∀ w ∈ wsX30, w ∈ lw_tbl := mem_r [138, 140, 142, 144, 146, 148, 150] (by decide +kernel)
set_option maxRecDepth 20000 in
theorem wsL_iX4 : ∀ w ∈ wsX40, w ∈ lw_tbl := mem_r [554, 556, 558, 560, 562, 564, 566, 568, 570, 572, 574, 576, 578, 580, 582, 584, 586, 588] (by decide +kernel)
set_option maxRecDepth 20000 in
theorem wsL_iX0 : ∀ w ∈ wsX00, w ∈ lw_tbl := mem_r [72, 74, 76, 78] (by decide +kernel)
set_option maxRecDepth 20000 in
theorem wsL_iX1 : ∀ w ∈ wsX10, w ∈ lw_tbl := mem_r [98, 100, 102, 104, 106] (by decide +kernel)
set_option maxRecDepth 20000 in
theorem wsL_iX2 : ∀ w ∈ wsX20, w ∈ lw_tbl := mem_r [122, 124, 126, 128] (by decide +kernel)
theorem wsL_law_in0 : ∀ w ∈ wsL_law0, w ∈ lw_tbl := (List.forall_mem_append.mpr ⟨(List.forall_mem_append.mpr ⟨(List.forall_mem_append.mpr ⟨(List.forall_mem_append.mpr ⟨(List.forall_mem_append.mpr ⟨(List.forall_mem_append.mpr ⟨(List.forall_mem_append.mpr ⟨wsL_i1, (List.forall_mem_append.mpr ⟨wsL_i2, (List.forall_mem_append.mpr ⟨wsL_i3, (List.forall_mem_append.mpr ⟨wsL_i4, (List.forall_mem_append.mpr ⟨wsL_i5, (List.forall_mem_append.mpr ⟨wsL_i6, (List.forall_mem_append.mpr ⟨wsL_i7, (List.forall_mem_append.mpr ⟨wsL_i8, (List.forall_mem_append.mpr ⟨wsL_i9, (List.forall_mem_append.mpr ⟨wsL_i10, (List.forall_mem_append.mpr ⟨wsL_i11, (List.forall_mem_append.mpr ⟨wsL_i12, (List.forall_mem_append.mpr ⟨wsL_i13, (List.forall_mem_append.mpr ⟨wsL_i14, (List.forall_mem_append.mpr ⟨wsL_i15, (List.forall_mem_append.mpr ⟨wsL_i16, (List.forall_mem_append.mpr ⟨wsL_i17, (List.forall_mem_append.mpr ⟨wsL_i18, wsL_i19⟩)⟩)⟩)⟩)⟩)⟩)⟩)⟩)⟩)⟩)⟩)⟩)⟩)⟩)⟩)⟩)⟩)⟩), wsL_iX3⟩), wsL_iX4⟩), wsL_iX0⟩), wsL_iX1⟩), wsL_iX2⟩), fun _ h => nomatch h⟩)
theorem wsL_law_x0 : ∀ w ∈ (vx_atS RX3 45 "java/lang/IllegalArgumentException" ["java/lang/RuntimeException", "java/lang/Exception"]).filter goodWord, w ∈ lw_tbl := by decide +kernel
theorem wsL_law_x1 : ∀ w ∈ (vx_atS RX3 56 "java/lang/IllegalStateException" ["java/lang/RuntimeException", "java/lang/Exception"]).filter goodWord, w ∈ lw_tbl := by decide +kernel
theorem wsL_law_x2 : ∀ w ∈ (vx_atS RX3 130 "java/lang/IndexOutOfBoundsException" ["java/lang/RuntimeException", "java/lang/Exception"]).filter goodWord, w ∈ lw_tbl := by decide +kernel
theorem wsL_law_in : ∀ w ∈ wsL_law, w ∈ lw_tbl := fun w h => (List.mem_append.mp h).elim (fun h => (List.mem_append.mp h).elim (fun h => (List.mem_append.mp h).elim (fun h => wsL_law_in0 w h) (fun h => wsL_law_x0 w h)) (fun h => wsL_law_x1 w h)) (fun h => wsL_law_x2 w h)
theorem inlX0 : ∀ w ∈ wsX00, w ∈ wsL_law := fun _ h => List.mem_append_left _ (List.mem_append_left _ (List.mem_append_left _ (List.mem_append_left _ (List.mem_append_left _ (List.mem_append_left _ (List.mem_append_right _ h))))))
theorem inX0 : ∀ w ∈ wsX00, w ∈ lw_tbl := fun w h => wsL_law_in w (inlX0 w h)
theorem inlX1 : ∀ w ∈ wsX10, w ∈ wsL_law := fun _ h => List.mem_append_left _ (List.mem_append_left _ (List.mem_append_left _ (List.mem_append_left _ (List.mem_append_left _ (List.mem_append_right _ h)))))
theorem inX1 : ∀ w ∈ wsX10, w ∈ lw_tbl := fun w h => wsL_law_in w (inlX1 w h)
theorem inlX2 : ∀ w ∈ wsX20, w ∈ wsL_law := fun _ h => List.mem_append_left _ (List.mem_append_left _ (List.mem_append_left _ (List.mem_append_left _ (List.mem_append_right _ h))))
theorem inX2 : ∀ w ∈ wsX20, w ∈ lw_tbl := fun w h => wsL_law_in w (inlX2 w h)
theorem inlX3 : ∀ w ∈ wsX30, w ∈ wsL_law := fun _ h => List.mem_append_left _ (List.mem_append_left _ (List.mem_append_left _ (List.mem_append_left _ (List.mem_append_left _ (List.mem_append_left _ (List.mem_append_left _ (List.mem_append_left _ (List.mem_append_right _ h))))))))
theorem inX3 : ∀ w ∈ wsX30, w ∈ lw_tbl := fun w h => wsL_law_in w (inlX3 w h)
theorem inlX4 : ∀ w ∈ wsX40, w ∈ wsL_law := fun _ h => List.mem_append_left _ (List.mem_append_left _ (List.mem_append_left _ (List.mem_append_left _ (List.mem_append_left _ (List.mem_append_left _ (List.mem_append_left _ (List.mem_append_right _ h)))))))
theorem inX4 : ∀ w ∈ wsX40, w ∈ lw_tbl := fun w h => wsL_law_in w (inlX4 w h)
theorem inJ0 : ∀ w ∈ wsJ00, w ∈ lw_tbl := by decide +kernel
theorem inJ10 : ∀ w ∈ wsJ100, w ∈ lw_tbl := by decide +kernel
theorem dX0_init_0 : decode cX0_init 0 = .ok (.aload_n 0, 1) := by decide +kernel
theorem dX0_init_1 : decode cX0_init 1 = .ok (.invokespecial 3, 3) := by decide +kernel
theorem dX0_init_4 : decode cX0_init 4 = .ok (.aload_n 0, 1) := by decide +kernel
theorem dX0_init_5 : decode cX0_init 5 = .ok (.bipush 64, 2) := by decide +kernel
theorem dX0_init_7 : decode cX0_init 7 = .ok (.newarray .int, 2) := by decide +kernel
theorem dX0_init_9 : decode cX0_init 9 = .ok (.putfield 9, 3) := by decide +kernel
theorem dX0_init_12 : decode cX0_init 12 = .ok (.aload_n 0, 1) := by decide +kernel
theorem dX0_init_13 : decode cX0_init 13 = .ok (.bipush 64, 2) := by decide +kernel
theorem dX0_init_15 : decode cX0_init 15 = .ok (.newarray .int, 2) := by decide +kernel
theorem dX0_init_17 : decode cX0_init 17 = .ok (.putfield 15, 3) := by decide +kernel
theorem dX0_init_20 : decode cX0_init 20 = .ok (.aload_n 0, 1) := by decide +kernel
theorem dX0_init_21 : decode cX0_init 21 = .ok (.bipush 64, 2) := by decide +kernel
theorem dX0_init_23 : decode cX0_init 23 = .ok (.newarray .float, 2) := by decide +kernel
theorem dX0_init_25 : decode cX0_init 25 = .ok (.putfield 18, 3) := by decide +kernel
theorem dX0_init_28 : decode cX0_init 28 = .ok (.return_, 1) := by decide +kernel
theorem dX0_append_0 : decode cX0_append 0 = .ok (.aload_n 0, 1) := by decide +kernel
theorem dX0_append_1 : decode cX0_append 1 = .ok (.getfield 9, 3) := by decide +kernel
theorem dX0_append_4 : decode cX0_append 4 = .ok (.aload_n 0, 1) := by decide +kernel
theorem dX0_append_5 : decode cX0_append 5 = .ok (.getfield 22, 3) := by decide +kernel
theorem dX0_append_8 : decode cX0_append 8 = .ok (.iload_n 1, 1) := by decide +kernel
theorem dX0_append_9 : decode cX0_append 9 = .ok (.iastore, 1) := by decide +kernel
theorem dX0_append_10 : decode cX0_append 10 = .ok (.aload_n 0, 1) := by decide +kernel
theorem dX0_append_11 : decode cX0_append 11 = .ok (.getfield 15, 3) := by decide +kernel
theorem dX0_append_14 : decode cX0_append 14 = .ok (.aload_n 0, 1) := by decide +kernel
theorem dX0_append_15 : decode cX0_append 15 = .ok (.getfield 22, 3) := by decide +kernel
theorem dX0_append_18 : decode cX0_append 18 = .ok (.iload_n 2, 1) := by decide +kernel
theorem dX0_append_19 : decode cX0_append 19 = .ok (.iastore, 1) := by decide +kernel
theorem dX0_append_20 : decode cX0_append 20 = .ok (.aload_n 0, 1) := by decide +kernel
theorem dX0_append_21 : decode cX0_append 21 = .ok (.getfield 18, 3) := by decide +kernel
theorem dX0_append_24 : decode cX0_append 24 = .ok (.aload_n 0, 1) := by decide +kernel
theorem dX0_append_25 : decode cX0_append 25 = .ok (.getfield 22, 3) := by decide +kernel
theorem dX0_append_28 : decode cX0_append 28 = .ok (.fload_n 3, 1) := by decide +kernel
theorem dX0_append_29 : decode cX0_append 29 = .ok (.fastore, 1) := by decide +kernel
theorem dX0_append_30 : decode cX0_append 30 = .ok (.aload_n 0, 1) := by decide +kernel
theorem dX0_append_31 : decode cX0_append 31 = .ok (.dup, 1) := by decide +kernel
theorem dX0_append_32 : decode cX0_append 32 = .ok (.getfield 22, 3) := by decide +kernel
theorem dX0_append_35 : decode cX0_append 35 = .ok (.iconst 1, 1) := by decide +kernel
theorem dX0_append_36 : decode cX0_append 36 = .ok (.iadd, 1) := by decide +kernel
theorem dX0_append_37 : decode cX0_append 37 = .ok (.putfield 22, 3) := by decide +kernel
theorem dX0_append_40 : decode cX0_append 40 = .ok (.return_, 1) := by decide +kernel
set_option maxRecDepth 20000 in
theorem ggX0_flow_X3_held : GoodIn wsX0_flow wsX3_held := goodIn_r _ [7, 8, 9] (by decide +kernel) (by decide +kernel)
set_option maxRecDepth 20000 in
theorem gX0_flow_X3_held_n26 : GoodIn wsX0_flow (wsX3_held) := ggX0_flow_X3_held
theorem dX0_flow_0 : decode cX0_flow 0 = .ok (.iconst 0, 1) := by decide +kernel
theorem dX0_flow_1 : decode cX0_flow 1 = .ok (.istore_n 2, 1) := by decide +kernel
theorem dX0_flow_2 : decode cX0_flow 2 = .ok (.iload_n 2, 1) := by decide +kernel
theorem dX0_flow_3 : decode cX0_flow 3 = .ok (.aload_n 0, 1) := by decide +kernel
theorem dX0_flow_4 : decode cX0_flow 4 = .ok (.getfield 22, 3) := by decide +kernel
theorem dX0_flow_7 : decode cX0_flow 7 = .ok (.if_icmp .ge 41, 3) := by decide +kernel
theorem dX0_flow_10 : decode cX0_flow 10 = .ok (.aload_n 0, 1) := by decide +kernel
theorem dX0_flow_11 : decode cX0_flow 11 = .ok (.getfield 15, 3) := by decide +kernel
theorem dX0_flow_14 : decode cX0_flow 14 = .ok (.iload_n 2, 1) := by decide +kernel
theorem dX0_flow_15 : decode cX0_flow 15 = .ok (.iaload, 1) := by decide +kernel
theorem dX0_flow_16 : decode cX0_flow 16 = .ok (.istore_n 3, 1) := by decide +kernel
theorem dX0_flow_17 : decode cX0_flow 17 = .ok (.aload_n 1, 1) := by decide +kernel
theorem dX0_flow_18 : decode cX0_flow 18 = .ok (.iload_n 3, 1) := by decide +kernel
theorem dX0_flow_19 : decode cX0_flow 19 = .ok (.aload_n 1, 1) := by decide +kernel
theorem dX0_flow_20 : decode cX0_flow 20 = .ok (.iload_n 3, 1) := by decide +kernel
theorem dX0_flow_21 : decode cX0_flow 21 = .ok (.faload, 1) := by decide +kernel
theorem dX0_flow_22 : decode cX0_flow 22 = .ok (.aload_n 1, 1) := by decide +kernel
theorem dX0_flow_23 : decode cX0_flow 23 = .ok (.aload_n 0, 1) := by decide +kernel
theorem dX0_flow_24 : decode cX0_flow 24 = .ok (.getfield 9, 3) := by decide +kernel
theorem dX0_flow_27 : decode cX0_flow 27 = .ok (.iload_n 2, 1) := by decide +kernel
theorem dX0_flow_28 : decode cX0_flow 28 = .ok (.iaload, 1) := by decide +kernel
theorem dX0_flow_29 : decode cX0_flow 29 = .ok (.faload, 1) := by decide +kernel
theorem dX0_flow_30 : decode cX0_flow 30 = .ok (.aload_n 0, 1) := by decide +kernel
theorem dX0_flow_31 : decode cX0_flow 31 = .ok (.getfield 18, 3) := by decide +kernel
theorem dX0_flow_34 : decode cX0_flow 34 = .ok (.iload_n 2, 1) := by decide +kernel
theorem dX0_flow_35 : decode cX0_flow 35 = .ok (.faload, 1) := by decide +kernel
theorem dX0_flow_36 : decode cX0_flow 36 = .ok (.fmul, 1) := by decide +kernel
theorem dX0_flow_37 : decode cX0_flow 37 = .ok (.fadd, 1) := by decide +kernel
theorem dX0_flow_38 : decode cX0_flow 38 = .ok (.invokestatic 26, 3) := by decide +kernel
theorem dX0_flow_41 : decode cX0_flow 41 = .ok (.fastore, 1) := by decide +kernel
theorem dX0_flow_42 : decode cX0_flow 42 = .ok (.iinc 2 1, 3) := by decide +kernel
theorem dX0_flow_45 : decode cX0_flow 45 = .ok (.goto (-43), 3) := by decide +kernel
theorem dX0_flow_48 : decode cX0_flow 48 = .ok (.return_, 1) := by decide +kernel
theorem dX1_init_0 : decode cX1_init 0 = .ok (.aload_n 0, 1) := by decide +kernel
theorem dX1_init_1 : decode cX1_init 1 = .ok (.invokespecial 3, 3) := by decide +kernel
theorem dX1_init_4 : decode cX1_init 4 = .ok (.aload_n 0, 1) := by decide +kernel
theorem dX1_init_5 : decode cX1_init 5 = .ok (.sipush 512, 3) := by decide +kernel
theorem dX1_init_8 : decode cX1_init 8 = .ok (.newarray .int, 2) := by decide +kernel
theorem dX1_init_10 : decode cX1_init 10 = .ok (.putfield 9, 3) := by decide +kernel
theorem dX1_init_13 : decode cX1_init 13 = .ok (.aload_n 0, 1) := by decide +kernel
theorem dX1_init_14 : decode cX1_init 14 = .ok (.sipush 512, 3) := by decide +kernel
theorem dX1_init_17 : decode cX1_init 17 = .ok (.newarray .int, 2) := by decide +kernel
theorem dX1_init_19 : decode cX1_init 19 = .ok (.putfield 15, 3) := by decide +kernel
theorem dX1_init_22 : decode cX1_init 22 = .ok (.aload_n 0, 1) := by decide +kernel
theorem dX1_init_23 : decode cX1_init 23 = .ok (.sipush 512, 3) := by decide +kernel
theorem dX1_init_26 : decode cX1_init 26 = .ok (.newarray .int, 2) := by decide +kernel
theorem dX1_init_28 : decode cX1_init 28 = .ok (.putfield 18, 3) := by decide +kernel
theorem dX1_init_31 : decode cX1_init 31 = .ok (.aload_n 0, 1) := by decide +kernel
theorem dX1_init_32 : decode cX1_init 32 = .ok (.sipush 512, 3) := by decide +kernel
theorem dX1_init_35 : decode cX1_init 35 = .ok (.newarray .float, 2) := by decide +kernel
theorem dX1_init_37 : decode cX1_init 37 = .ok (.putfield 21, 3) := by decide +kernel
theorem dX1_init_40 : decode cX1_init 40 = .ok (.return_, 1) := by decide +kernel
theorem dX1_sizeBelow_0 : decode cX1_sizeBelow 0 = .ok (.iconst 0, 1) := by decide +kernel
theorem dX1_sizeBelow_1 : decode cX1_sizeBelow 1 = .ok (.istore_n 3, 1) := by decide +kernel
theorem dX1_sizeBelow_2 : decode cX1_sizeBelow 2 = .ok (.sipush 512, 3) := by decide +kernel
theorem dX1_sizeBelow_5 : decode cX1_sizeBelow 5 = .ok (.istore 4, 2) := by decide +kernel
theorem dX1_sizeBelow_7 : decode cX1_sizeBelow 7 = .ok (.iload 4, 2) := by decide +kernel
theorem dX1_sizeBelow_9 : decode cX1_sizeBelow 9 = .ok (.ifCond .le 45, 3) := by decide +kernel
theorem dX1_sizeBelow_12 : decode cX1_sizeBelow 12 = .ok (.iload_n 3, 1) := by decide +kernel
theorem dX1_sizeBelow_13 : decode cX1_sizeBelow 13 = .ok (.iload 4, 2) := by decide +kernel
theorem dX1_sizeBelow_15 : decode cX1_sizeBelow 15 = .ok (.iadd, 1) := by decide +kernel
theorem dX1_sizeBelow_16 : decode cX1_sizeBelow 16 = .ok (.istore 5, 2) := by decide +kernel
theorem dX1_sizeBelow_18 : decode cX1_sizeBelow 18 = .ok (.iload 5, 2) := by decide +kernel
theorem dX1_sizeBelow_20 : decode cX1_sizeBelow 20 = .ok (.aload_n 0, 1) := by decide +kernel
theorem dX1_sizeBelow_21 : decode cX1_sizeBelow 21 = .ok (.getfield 25, 3) := by decide +kernel
theorem dX1_sizeBelow_24 : decode cX1_sizeBelow 24 = .ok (.if_icmp .gt 21, 3) := by decide +kernel
theorem dX1_sizeBelow_27 : decode cX1_sizeBelow 27 = .ok (.aload_n 0, 1) := by decide +kernel
theorem dX1_sizeBelow_28 : decode cX1_sizeBelow 28 = .ok (.getfield 9, 3) := by decide +kernel
theorem dX1_sizeBelow_31 : decode cX1_sizeBelow 31 = .ok (.iload 5, 2) := by decide +kernel
theorem dX1_sizeBelow_33 : decode cX1_sizeBelow 33 = .ok (.iconst 1, 1) := by decide +kernel
theorem dX1_sizeBelow_34 : decode cX1_sizeBelow 34 = .ok (.isub, 1) := by decide +kernel
theorem dX1_sizeBelow_35 : decode cX1_sizeBelow 35 = .ok (.iaload, 1) := by decide +kernel
theorem dX1_sizeBelow_36 : decode cX1_sizeBelow 36 = .ok (.i2l, 1) := by decide +kernel
theorem dX1_sizeBelow_37 : decode cX1_sizeBelow 37 = .ok (.lload_n 1, 1) := by decide +kernel
theorem dX1_sizeBelow_38 : decode cX1_sizeBelow 38 = .ok (.lcmp, 1) := by decide +kernel
theorem dX1_sizeBelow_39 : decode cX1_sizeBelow 39 = .ok (.ifCond .ge 6, 3) := by decide +kernel
theorem dX1_sizeBelow_42 : decode cX1_sizeBelow 42 = .ok (.iload 5, 2) := by decide +kernel
theorem dX1_sizeBelow_44 : decode cX1_sizeBelow 44 = .ok (.istore_n 3, 1) := by decide +kernel
theorem dX1_sizeBelow_45 : decode cX1_sizeBelow 45 = .ok (.iload 4, 2) := by decide +kernel
theorem dX1_sizeBelow_47 : decode cX1_sizeBelow 47 = .ok (.iconst 2, 1) := by decide +kernel
theorem dX1_sizeBelow_48 : decode cX1_sizeBelow 48 = .ok (.idiv, 1) := by decide +kernel
theorem dX1_sizeBelow_49 : decode cX1_sizeBelow 49 = .ok (.istore 4, 2) := by decide +kernel
theorem dX1_sizeBelow_51 : decode cX1_sizeBelow 51 = .ok (.goto (-44), 3) := by decide +kernel
theorem dX1_sizeBelow_54 : decode cX1_sizeBelow 54 = .ok (.iload_n 3, 1) := by decide +kernel
theorem dX1_sizeBelow_55 : decode cX1_sizeBelow 55 = .ok (.ireturn, 1) := by decide +kernel
set_option maxRecDepth 20000 in
theorem ggX1_sizeOf_X1_sizeBelow : GoodIn wsX1_sizeOf wsX1_sizeBelow := goodIn_r _ [5, 6, 7, 8, 9, 10, 11, 12] (by decide +kernel) (by decide +kernel)
set_option maxRecDepth 20000 in
theorem gX1_sizeOf_X1_sizeBelow : GoodIn wsX1_sizeOf (wsV RX1 29 RX1 yX1_sizeBelow wsX1_sizeBelow) := goodIn_app (goodIn_of _ (by decide +kernel)) ggX1_sizeOf_X1_sizeBelow
theorem dX1_sizeOf_0 : decode cX1_sizeOf 0 = .ok (.aload_n 0, 1) := by decide +kernel
theorem dX1_sizeOf_1 : decode cX1_sizeOf 1 = .ok (.iload_n 1, 1) := by decide +kernel
theorem dX1_sizeOf_2 : decode cX1_sizeOf 2 = .ok (.i2l, 1) := by decide +kernel
theorem dX1_sizeOf_3 : decode cX1_sizeOf 3 = .ok (.lconst 1, 1) := by decide +kernel
theorem dX1_sizeOf_4 : decode cX1_sizeOf 4 = .ok (.ladd, 1) := by decide +kernel
theorem dX1_sizeOf_5 : decode cX1_sizeOf 5 = .ok (.invokevirtual 29, 3) := by decide +kernel
theorem dX1_sizeOf_8 : decode cX1_sizeOf 8 = .ok (.aload_n 0, 1) := by decide +kernel
theorem dX1_sizeOf_9 : decode cX1_sizeOf 9 = .ok (.iload_n 1, 1) := by decide +kernel
theorem dX1_sizeOf_10 : decode cX1_sizeOf 10 = .ok (.i2l, 1) := by decide +kernel
theorem dX1_sizeOf_11 : decode cX1_sizeOf 11 = .ok (.invokevirtual 29, 3) := by decide +kernel
theorem dX1_sizeOf_14 : decode cX1_sizeOf 14 = .ok (.isub, 1) := by decide +kernel
theorem dX1_sizeOf_15 : decode cX1_sizeOf 15 = .ok (.ireturn, 1) := by decide +kernel
set_option maxRecDepth 20000 in
theorem ggX1_append_X1_sizeBelow : GoodIn wsX1_append wsX1_sizeBelow := goodIn_r _ [10, 5, 1, 19, 20, 21, 22, 23] (by decide +kernel) (by decide +kernel)
set_option maxRecDepth 20000 in
theorem gX1_append_X1_sizeBelow : GoodIn wsX1_append (wsV RX1 29 RX1 yX1_sizeBelow wsX1_sizeBelow) := goodIn_app (goodIn_of _ (by decide +kernel)) ggX1_append_X1_sizeBelow
set_option maxRecDepth 20000 in
theorem ggX1_append_X1_moveRest : GoodIn wsX1_append wsX1_moveRest := goodIn_r _ [14, 5, 1, 15, 16, 17, 18, 2, 3, 4, 19, 20, 21, 22, 23] (by decide +kernel) (by decide +kernel)
set_option maxRecDepth 20000 in
theorem gX1_append_X1_moveRest : GoodIn wsX1_append (wsV RX1 33 RX1 yX1_moveRest wsX1_moveRest) := goodIn_app (goodIn_of _ (by decide +kernel)) ggX1_append_X1_moveRest
theorem dX1_append_0 : decode cX1_append 0 = .ok (.aload_n 0, 1) := by decide +kernel
theorem dX1_append_1 : decode cX1_append 1 = .ok (.iload_n 1, 1) := by decide +kernel
theorem dX1_append_2 : decode cX1_append 2 = .ok (.i2l, 1) := by decide +kernel
theorem dX1_append_3 : decode cX1_append 3 = .ok (.lconst 1, 1) := by decide +kernel
theorem dX1_append_4 : decode cX1_append 4 = .ok (.ladd, 1) := by decide +kernel
theorem dX1_append_5 : decode cX1_append 5 = .ok (.invokevirtual 29, 3) := by decide +kernel
theorem dX1_append_8 : decode cX1_append 8 = .ok (.istore 5, 2) := by decide +kernel
theorem dX1_append_10 : decode cX1_append 10 = .ok (.aload_n 0, 1) := by decide +kernel
theorem dX1_append_11 : decode cX1_append 11 = .ok (.iload 5, 2) := by decide +kernel
theorem dX1_append_13 : decode cX1_append 13 = .ok (.iload 5, 2) := by decide +kernel
theorem dX1_append_15 : decode cX1_append 15 = .ok (.iconst 1, 1) := by decide +kernel
theorem dX1_append_16 : decode cX1_append 16 = .ok (.iadd, 1) := by decide +kernel
theorem dX1_append_17 : decode cX1_append 17 = .ok (.invokevirtual 33, 3) := by decide +kernel
theorem dX1_append_20 : decode cX1_append 20 = .ok (.aload_n 0, 1) := by decide +kernel
theorem dX1_append_21 : decode cX1_append 21 = .ok (.getfield 9, 3) := by decide +kernel
theorem dX1_append_24 : decode cX1_append 24 = .ok (.iload 5, 2) := by decide +kernel
theorem dX1_append_26 : decode cX1_append 26 = .ok (.iload_n 1, 1) := by decide +kernel
theorem dX1_append_27 : decode cX1_append 27 = .ok (.iastore, 1) := by decide +kernel
theorem dX1_append_28 : decode cX1_append 28 = .ok (.aload_n 0, 1) := by decide +kernel
theorem dX1_append_29 : decode cX1_append 29 = .ok (.getfield 15, 3) := by decide +kernel
theorem dX1_append_32 : decode cX1_append 32 = .ok (.iload 5, 2) := by decide +kernel
theorem dX1_append_34 : decode cX1_append 34 = .ok (.iload_n 2, 1) := by decide +kernel
theorem dX1_append_35 : decode cX1_append 35 = .ok (.iastore, 1) := by decide +kernel
theorem dX1_append_36 : decode cX1_append 36 = .ok (.aload_n 0, 1) := by decide +kernel
theorem dX1_append_37 : decode cX1_append 37 = .ok (.getfield 18, 3) := by decide +kernel
theorem dX1_append_40 : decode cX1_append 40 = .ok (.iload 5, 2) := by decide +kernel
theorem dX1_append_42 : decode cX1_append 42 = .ok (.iload_n 3, 1) := by decide +kernel
theorem dX1_append_43 : decode cX1_append 43 = .ok (.iastore, 1) := by decide +kernel
theorem dX1_append_44 : decode cX1_append 44 = .ok (.aload_n 0, 1) := by decide +kernel
theorem dX1_append_45 : decode cX1_append 45 = .ok (.getfield 21, 3) := by decide +kernel
theorem dX1_append_48 : decode cX1_append 48 = .ok (.iload 5, 2) := by decide +kernel
theorem dX1_append_50 : decode cX1_append 50 = .ok (.fload 4, 2) := by decide +kernel
theorem dX1_append_52 : decode cX1_append 52 = .ok (.fastore, 1) := by decide +kernel
theorem dX1_append_53 : decode cX1_append 53 = .ok (.aload_n 0, 1) := by decide +kernel
theorem dX1_append_54 : decode cX1_append 54 = .ok (.dup, 1) := by decide +kernel
theorem dX1_append_55 : decode cX1_append 55 = .ok (.getfield 25, 3) := by decide +kernel
theorem dX1_append_58 : decode cX1_append 58 = .ok (.iconst 1, 1) := by decide +kernel
theorem dX1_append_59 : decode cX1_append 59 = .ok (.iadd, 1) := by decide +kernel
theorem dX1_append_60 : decode cX1_append 60 = .ok (.putfield 25, 3) := by decide +kernel
theorem dX1_append_63 : decode cX1_append 63 = .ok (.return_, 1) := by decide +kernel
set_option maxRecDepth 20000 in
theorem ggX1_dropBelow_X1_sizeBelow : GoodIn wsX1_dropBelow wsX1_sizeBelow := goodIn_r _ [6, 1, 7, 19, 20, 21, 22, 23] (by decide +kernel) (by decide +kernel)
set_option maxRecDepth 20000 in
theorem gX1_dropBelow_X1_sizeBelow : GoodIn wsX1_dropBelow (wsV RX1 29 RX1 yX1_sizeBelow wsX1_sizeBelow) := goodIn_app (goodIn_of _ (by decide +kernel)) ggX1_dropBelow_X1_sizeBelow
set_option maxRecDepth 20000 in
theorem ggX1_dropBelow_X1_moveRest : GoodIn wsX1_dropBelow wsX1_moveRest := goodIn_r _ [11, 1, 7, 12, 13, 14, 15, 16, 17, 18, 19, 20, 21, 22, 23] (by decide +kernel) (by decide +kernel)
set_option maxRecDepth 20000 in
theorem gX1_dropBelow_X1_moveRest : GoodIn wsX1_dropBelow (wsV RX1 33 RX1 yX1_moveRest wsX1_moveRest) := goodIn_app (goodIn_of _ (by decide +kernel)) ggX1_dropBelow_X1_moveRest
theorem dX1_dropBelow_0 : decode cX1_dropBelow 0 = .ok (.aload_n 0, 1) := by decide +kernel
theorem dX1_dropBelow_1 : decode cX1_dropBelow 1 = .ok (.iload_n 1, 1) := by decide +kernel
theorem dX1_dropBelow_2 : decode cX1_dropBelow 2 = .ok (.i2l, 1) := by decide +kernel
theorem dX1_dropBelow_3 : decode cX1_dropBelow 3 = .ok (.invokevirtual 29, 3) := by decide +kernel
theorem dX1_dropBelow_6 : decode cX1_dropBelow 6 = .ok (.istore_n 2, 1) := by decide +kernel
theorem dX1_dropBelow_7 : decode cX1_dropBelow 7 = .ok (.aload_n 0, 1) := by decide +kernel
theorem dX1_dropBelow_8 : decode cX1_dropBelow 8 = .ok (.iload_n 2, 1) := by decide +kernel
theorem dX1_dropBelow_9 : decode cX1_dropBelow 9 = .ok (.iconst 0, 1) := by decide +kernel
theorem dX1_dropBelow_10 : decode cX1_dropBelow 10 = .ok (.invokevirtual 33, 3) := by decide +kernel
theorem dX1_dropBelow_13 : decode cX1_dropBelow 13 = .ok (.aload_n 0, 1) := by decide +kernel
theorem dX1_dropBelow_14 : decode cX1_dropBelow 14 = .ok (.dup, 1) := by decide +kernel
theorem dX1_dropBelow_15 : decode cX1_dropBelow 15 = .ok (.getfield 25, 3) := by decide +kernel
theorem dX1_dropBelow_18 : decode cX1_dropBelow 18 = .ok (.iload_n 2, 1) := by decide +kernel
theorem dX1_dropBelow_19 : decode cX1_dropBelow 19 = .ok (.isub, 1) := by decide +kernel
theorem dX1_dropBelow_20 : decode cX1_dropBelow 20 = .ok (.putfield 25, 3) := by decide +kernel
end
section
theorem dX1_dropBelow_23 : decode cX1_dropBelow 23 = .ok (.return_, 1) := by decide +kernel
set_option maxRecDepth 20000 in
theorem ggX1_dropFrom_X1_sizeBelow : GoodIn wsX1_dropFrom wsX1_sizeBelow := goodIn_r _ [6, 1, 7, 8, 9, 10, 11, 12] (by decide +kernel) (by decide +kernel)
set_option maxRecDepth 20000 in
theorem gX1_dropFrom_X1_sizeBelow : GoodIn wsX1_dropFrom (wsV RX1 29 RX1 yX1_sizeBelow wsX1_sizeBelow) := goodIn_app (goodIn_of _ (by decide +kernel)) ggX1_dropFrom_X1_sizeBelow
theorem dX1_dropFrom_0 : decode cX1_dropFrom 0 = .ok (.aload_n 0, 1) := by decide +kernel
theorem dX1_dropFrom_1 : decode cX1_dropFrom 1 = .ok (.getfield 25, 3) := by decide +kernel
theorem dX1_dropFrom_4 : decode cX1_dropFrom 4 = .ok (.istore_n 2, 1) := by decide +kernel
theorem dX1_dropFrom_5 : decode cX1_dropFrom 5 = .ok (.aload_n 0, 1) := by decide +kernel
theorem dX1_dropFrom_6 : decode cX1_dropFrom 6 = .ok (.aload_n 0, 1) := by decide +kernel
theorem dX1_dropFrom_7 : decode cX1_dropFrom 7 = .ok (.iload_n 1, 1) := by decide +kernel
theorem dX1_dropFrom_8 : decode cX1_dropFrom 8 = .ok (.i2l, 1) := by decide +kernel
theorem dX1_dropFrom_9 : decode cX1_dropFrom 9 = .ok (.invokevirtual 29, 3) := by decide +kernel
theorem dX1_dropFrom_12 : decode cX1_dropFrom 12 = .ok (.putfield 25, 3) := by decide +kernel
theorem dX1_dropFrom_15 : decode cX1_dropFrom 15 = .ok (.iload_n 2, 1) := by decide +kernel
theorem dX1_dropFrom_16 : decode cX1_dropFrom 16 = .ok (.aload_n 0, 1) := by decide +kernel
theorem dX1_dropFrom_17 : decode cX1_dropFrom 17 = .ok (.getfield 25, 3) := by decide +kernel
theorem dX1_dropFrom_20 : decode cX1_dropFrom 20 = .ok (.isub, 1) := by decide +kernel
theorem dX1_dropFrom_21 : decode cX1_dropFrom 21 = .ok (.ireturn, 1) := by decide +kernel
theorem dX1_moveRest_0 : decode cX1_moveRest 0 = .ok (.aload_n 0, 1) := by decide +kernel
theorem dX1_moveRest_1 : decode cX1_moveRest 1 = .ok (.getfield 25, 3) := by decide +kernel
theorem dX1_moveRest_4 : decode cX1_moveRest 4 = .ok (.iload_n 1, 1) := by decide +kernel
theorem dX1_moveRest_5 : decode cX1_moveRest 5 = .ok (.isub, 1) := by decide +kernel
theorem dX1_moveRest_6 : decode cX1_moveRest 6 = .ok (.istore_n 3, 1) := by decide +kernel
theorem dX1_moveRest_7 : decode cX1_moveRest 7 = .ok (.aload_n 0, 1) := by decide +kernel
theorem dX1_moveRest_8 : decode cX1_moveRest 8 = .ok (.getfield 9, 3) := by decide +kernel
theorem dX1_moveRest_11 : decode cX1_moveRest 11 = .ok (.iload_n 1, 1) := by decide +kernel
theorem dX1_moveRest_12 : decode cX1_moveRest 12 = .ok (.aload_n 0, 1) := by decide +kernel
theorem dX1_moveRest_13 : decode cX1_moveRest 13 = .ok (.getfield 9, 3) := by decide +kernel
theorem dX1_moveRest_16 : decode cX1_moveRest 16 = .ok (.iload_n 2, 1) := by decide +kernel
theorem dX1_moveRest_17 : decode cX1_moveRest 17 = .ok (.iload_n 3, 1) := by decide +kernel
theorem dX1_moveRest_18 : decode cX1_moveRest 18 = .ok (.invokestatic 37, 3) := by decide +kernel
theorem dX1_moveRest_21 : decode cX1_moveRest 21 = .ok (.aload_n 0, 1) := by decide +kernel
theorem dX1_moveRest_22 : decode cX1_moveRest 22 = .ok (.getfield 15, 3) := by decide +kernel
theorem dX1_moveRest_25 : decode cX1_moveRest 25 = .ok (.iload_n 1, 1) := by decide +kernel
theorem dX1_moveRest_26 : decode cX1_moveRest 26 = .ok (.aload_n 0, 1) := by decide +kernel
theorem dX1_moveRest_27 : decode cX1_moveRest 27 = .ok (.getfield 15, 3) := by decide +kernel
theorem dX1_moveRest_30 : decode cX1_moveRest 30 = .ok (.iload_n 2, 1) := by decide +kernel
theorem dX1_moveRest_31 : decode cX1_moveRest 31 = .ok (.iload_n 3, 1) := by decide +kernel
theorem dX1_moveRest_32 : decode cX1_moveRest 32 = .ok (.invokestatic 37, 3) := by decide +kernel
theorem dX1_moveRest_35 : decode cX1_moveRest 35 = .ok (.aload_n 0, 1) := by decide +kernel
theorem dX1_moveRest_36 : decode cX1_moveRest 36 = .ok (.getfield 18, 3) := by decide +kernel
theorem dX1_moveRest_39 : decode cX1_moveRest 39 = .ok (.iload_n 1, 1) := by decide +kernel
theorem dX1_moveRest_40 : decode cX1_moveRest 40 = .ok (.aload_n 0, 1) := by decide +kernel
theorem dX1_moveRest_41 : decode cX1_moveRest 41 = .ok (.getfield 18, 3) := by decide +kernel
theorem dX1_moveRest_44 : decode cX1_moveRest 44 = .ok (.iload_n 2, 1) := by decide +kernel
theorem dX1_moveRest_45 : decode cX1_moveRest 45 = .ok (.iload_n 3, 1) := by decide +kernel
theorem dX1_moveRest_46 : decode cX1_moveRest 46 = .ok (.invokestatic 37, 3) := by decide +kernel
theorem dX1_moveRest_49 : decode cX1_moveRest 49 = .ok (.aload_n 0, 1) := by decide +kernel
theorem dX1_moveRest_50 : decode cX1_moveRest 50 = .ok (.getfield 21, 3) := by decide +kernel
theorem dX1_moveRest_53 : decode cX1_moveRest 53 = .ok (.iload_n 1, 1) := by decide +kernel
theorem dX1_moveRest_54 : decode cX1_moveRest 54 = .ok (.aload_n 0, 1) := by decide +kernel
theorem dX1_moveRest_55 : decode cX1_moveRest 55 = .ok (.getfield 21, 3) := by decide +kernel
theorem dX1_moveRest_58 : decode cX1_moveRest 58 = .ok (.iload_n 2, 1) := by decide +kernel
theorem dX1_moveRest_59 : decode cX1_moveRest 59 = .ok (.iload_n 3, 1) := by decide +kernel
theorem dX1_moveRest_60 : decode cX1_moveRest 60 = .ok (.invokestatic 37, 3) := by decide +kernel
theorem dX1_moveRest_63 : decode cX1_moveRest 63 = .ok (.return_, 1) := by decide +kernel
set_option maxRecDepth 20000 in
theorem ggX1_putIn_X1_sizeBelow : GoodIn wsX1_putIn wsX1_sizeBelow := goodIn_r _ [8, 9, 10, 19, 20, 21, 22, 23] (by decide +kernel) (by decide +kernel)
set_option maxRecDepth 20000 in
theorem gX1_putIn_X1_sizeBelow : GoodIn wsX1_putIn (wsV RX1 29 RX1 yX1_sizeBelow wsX1_sizeBelow) := goodIn_app (goodIn_of _ (by decide +kernel)) ggX1_putIn_X1_sizeBelow
set_option maxRecDepth 20000 in
theorem ggX1_putIn_X1_changed : GoodIn wsX1_putIn wsX1_changed := goodIn_r _ [13] (by decide +kernel) (by decide +kernel)
set_option maxRecDepth 20000 in
theorem gX1_putIn_X1_changed : GoodIn wsX1_putIn (va_wsS RX1 43 yX1_changed wsX1_changed) := goodIn_app (goodIn_of _ (by decide +kernel)) ggX1_putIn_X1_changed
set_option maxRecDepth 20000 in
theorem ggX1_putIn_X3_held : GoodIn wsX1_putIn wsX3_held := goodIn_r _ [16, 17, 18] (by decide +kernel) (by decide +kernel)
set_option maxRecDepth 20000 in
theorem gX1_putIn_X3_held_n47 : GoodIn wsX1_putIn (wsX3_held) := ggX1_putIn_X3_held
theorem dX1_putIn_0 : decode cX1_putIn 0 = .ok (.aload_n 0, 1) := by decide +kernel
theorem dX1_putIn_1 : decode cX1_putIn 1 = .ok (.iload_n 1, 1) := by decide +kernel
theorem dX1_putIn_2 : decode cX1_putIn 2 = .ok (.i2l, 1) := by decide +kernel
theorem dX1_putIn_3 : decode cX1_putIn 3 = .ok (.lconst 1, 1) := by decide +kernel
theorem dX1_putIn_4 : decode cX1_putIn 4 = .ok (.ladd, 1) := by decide +kernel
theorem dX1_putIn_5 : decode cX1_putIn 5 = .ok (.invokevirtual 29, 3) := by decide +kernel
theorem dX1_putIn_8 : decode cX1_putIn 8 = .ok (.istore_n 3, 1) := by decide +kernel
theorem dX1_putIn_9 : decode cX1_putIn 9 = .ok (.aload_n 0, 1) := by decide +kernel
theorem dX1_putIn_10 : decode cX1_putIn 10 = .ok (.iload_n 1, 1) := by decide +kernel
theorem dX1_putIn_11 : decode cX1_putIn 11 = .ok (.i2l, 1) := by decide +kernel
theorem dX1_putIn_12 : decode cX1_putIn 12 = .ok (.invokevirtual 29, 3) := by decide +kernel
theorem dX1_putIn_15 : decode cX1_putIn 15 = .ok (.istore 4, 2) := by decide +kernel
theorem dX1_putIn_17 : decode cX1_putIn 17 = .ok (.iload 4, 2) := by decide +kernel
theorem dX1_putIn_19 : decode cX1_putIn 19 = .ok (.iload_n 3, 1) := by decide +kernel
theorem dX1_putIn_20 : decode cX1_putIn 20 = .ok (.if_icmp .ge 46, 3) := by decide +kernel
theorem dX1_putIn_23 : decode cX1_putIn 23 = .ok (.aload_n 0, 1) := by decide +kernel
theorem dX1_putIn_24 : decode cX1_putIn 24 = .ok (.getfield 15, 3) := by decide +kernel
theorem dX1_putIn_27 : decode cX1_putIn 27 = .ok (.iload 4, 2) := by decide +kernel
theorem dX1_putIn_29 : decode cX1_putIn 29 = .ok (.iaload, 1) := by decide +kernel
theorem dX1_putIn_30 : decode cX1_putIn 30 = .ok (.istore 5, 2) := by decide +kernel
theorem dX1_putIn_32 : decode cX1_putIn 32 = .ok (.aload_n 2, 1) := by decide +kernel
theorem dX1_putIn_33 : decode cX1_putIn 33 = .ok (.iload 5, 2) := by decide +kernel
theorem dX1_putIn_35 : decode cX1_putIn 35 = .ok (.aload_n 2, 1) := by decide +kernel
theorem dX1_putIn_36 : decode cX1_putIn 36 = .ok (.iload 5, 2) := by decide +kernel
theorem dX1_putIn_38 : decode cX1_putIn 38 = .ok (.faload, 1) := by decide +kernel
theorem dX1_putIn_39 : decode cX1_putIn 39 = .ok (.aload_n 0, 1) := by decide +kernel
theorem dX1_putIn_40 : decode cX1_putIn 40 = .ok (.getfield 18, 3) := by decide +kernel
theorem dX1_putIn_43 : decode cX1_putIn 43 = .ok (.iload 4, 2) := by decide +kernel
theorem dX1_putIn_45 : decode cX1_putIn 45 = .ok (.iaload, 1) := by decide +kernel
theorem dX1_putIn_46 : decode cX1_putIn 46 = .ok (.aload_n 0, 1) := by decide +kernel
theorem dX1_putIn_47 : decode cX1_putIn 47 = .ok (.getfield 21, 3) := by decide +kernel
theorem dX1_putIn_50 : decode cX1_putIn 50 = .ok (.iload 4, 2) := by decide +kernel
theorem dX1_putIn_52 : decode cX1_putIn 52 = .ok (.faload, 1) := by decide +kernel
theorem dX1_putIn_53 : decode cX1_putIn 53 = .ok (.invokestatic 43, 3) := by decide +kernel
theorem dX1_putIn_56 : decode cX1_putIn 56 = .ok (.invokestatic 47, 3) := by decide +kernel
theorem dX1_putIn_59 : decode cX1_putIn 59 = .ok (.fastore, 1) := by decide +kernel
theorem dX1_putIn_60 : decode cX1_putIn 60 = .ok (.iinc 4 1, 3) := by decide +kernel
theorem dX1_putIn_63 : decode cX1_putIn 63 = .ok (.goto (-46), 3) := by decide +kernel
theorem dX1_putIn_66 : decode cX1_putIn 66 = .ok (.return_, 1) := by decide +kernel
theorem dX1_changed_0 : decode cX1_changed 0 = .ok (.iload_n 1, 1) := by decide +kernel
theorem dX1_changed_1 : decode cX1_changed 1 = .ok (.lookupswitch 33 #[(0, 27), (1, 29)], 27) := by decide +kernel
theorem dX1_changed_28 : decode cX1_changed 28 = .ok (.fload_n 2, 1) := by decide +kernel
theorem dX1_changed_29 : decode cX1_changed 29 = .ok (.freturn, 1) := by decide +kernel
theorem dX1_changed_30 : decode cX1_changed 30 = .ok (.fload_n 0, 1) := by decide +kernel
theorem dX1_changed_31 : decode cX1_changed 31 = .ok (.fload_n 2, 1) := by decide +kernel
theorem dX1_changed_32 : decode cX1_changed 32 = .ok (.fadd, 1) := by decide +kernel
theorem dX1_changed_33 : decode cX1_changed 33 = .ok (.freturn, 1) := by decide +kernel
theorem dX1_changed_34 : decode cX1_changed 34 = .ok (.fload_n 0, 1) := by decide +kernel
theorem dX1_changed_35 : decode cX1_changed 35 = .ok (.fload_n 2, 1) := by decide +kernel
theorem dX1_changed_36 : decode cX1_changed 36 = .ok (.fmul, 1) := by decide +kernel
theorem dX1_changed_37 : decode cX1_changed 37 = .ok (.freturn, 1) := by decide +kernel
theorem dX2_init_0 : decode cX2_init 0 = .ok (.aload_n 0, 1) := by decide +kernel
theorem dX2_init_1 : decode cX2_init 1 = .ok (.invokespecial 3, 3) := by decide +kernel
theorem dX2_init_4 : decode cX2_init 4 = .ok (.aload_n 0, 1) := by decide +kernel
theorem dX2_init_5 : decode cX2_init 5 = .ok (.bipush 16, 2) := by decide +kernel
theorem dX2_init_7 : decode cX2_init 7 = .ok (.newarray .int, 2) := by decide +kernel
theorem dX2_init_9 : decode cX2_init 9 = .ok (.putfield 9, 3) := by decide +kernel
theorem dX2_init_12 : decode cX2_init 12 = .ok (.aload_n 0, 1) := by decide +kernel
theorem dX2_init_13 : decode cX2_init 13 = .ok (.bipush 16, 2) := by decide +kernel
theorem dX2_init_15 : decode cX2_init 15 = .ok (.iload_n 1, 1) := by decide +kernel
theorem dX2_init_16 : decode cX2_init 16 = .ok (.multianewarray 15 2, 4) := by decide +kernel
theorem dX2_init_20 : decode cX2_init 20 = .ok (.putfield 17, 3) := by decide +kernel
theorem dX2_init_23 : decode cX2_init 23 = .ok (.aload_n 0, 1) := by decide +kernel
theorem dX2_init_24 : decode cX2_init 24 = .ok (.iconst 1, 1) := by decide +kernel
theorem dX2_init_25 : decode cX2_init 25 = .ok (.putfield 20, 3) := by decide +kernel
theorem dX2_init_28 : decode cX2_init 28 = .ok (.return_, 1) := by decide +kernel
theorem dX2_slot_0 : decode cX2_slot 0 = .ok (.aload_n 0, 1) := by decide +kernel
theorem dX2_slot_1 : decode cX2_slot 1 = .ok (.getfield 24, 3) := by decide +kernel
theorem dX2_slot_4 : decode cX2_slot 4 = .ok (.iload_n 1, 1) := by decide +kernel
theorem dX2_slot_5 : decode cX2_slot 5 = .ok (.iadd, 1) := by decide +kernel
theorem dX2_slot_6 : decode cX2_slot 6 = .ok (.bipush 16, 2) := by decide +kernel
theorem dX2_slot_8 : decode cX2_slot 8 = .ok (.irem, 1) := by decide +kernel
theorem dX2_slot_9 : decode cX2_slot 9 = .ok (.ireturn, 1) := by decide +kernel
set_option maxRecDepth 20000 in
theorem ggX2_stepOf_X2_slot : GoodIn wsX2_stepOf wsX2_slot := goodIn_r _ [6, 7, 8, 9, 10, 11] (by decide +kernel) (by decide +kernel)
set_option maxRecDepth 20000 in
theorem gX2_stepOf_X2_slot : GoodIn wsX2_stepOf (wsV RX2 27 RX2 yX2_slot wsX2_slot) := goodIn_app (goodIn_of _ (by decide +kernel)) ggX2_stepOf_X2_slot
theorem dX2_stepOf_0 : decode cX2_stepOf 0 = .ok (.aload_n 0, 1) := by decide +kernel
theorem dX2_stepOf_1 : decode cX2_stepOf 1 = .ok (.getfield 9, 3) := by decide +kernel
theorem dX2_stepOf_4 : decode cX2_stepOf 4 = .ok (.aload_n 0, 1) := by decide +kernel
theorem dX2_stepOf_5 : decode cX2_stepOf 5 = .ok (.iload_n 1, 1) := by decide +kernel
theorem dX2_stepOf_6 : decode cX2_stepOf 6 = .ok (.invokevirtual 27, 3) := by decide +kernel
theorem dX2_stepOf_9 : decode cX2_stepOf 9 = .ok (.iaload, 1) := by decide +kernel
theorem dX2_stepOf_10 : decode cX2_stepOf 10 = .ok (.ireturn, 1) := by decide +kernel
set_option maxRecDepth 20000 in
theorem ggX2_row_X2_slot : GoodIn wsX2_row wsX2_slot := goodIn_r _ [6, 7, 8, 9, 10, 11] (by decide +kernel) (by decide +kernel)
set_option maxRecDepth 20000 in
theorem gX2_row_X2_slot : GoodIn wsX2_row (wsV RX2 27 RX2 yX2_slot wsX2_slot) := goodIn_app (goodIn_of _ (by decide +kernel)) ggX2_row_X2_slot
theorem dX2_row_0 : decode cX2_row 0 = .ok (.aload_n 0, 1) := by decide +kernel
theorem dX2_row_1 : decode cX2_row 1 = .ok (.getfield 17, 3) := by decide +kernel
theorem dX2_row_4 : decode cX2_row 4 = .ok (.aload_n 0, 1) := by decide +kernel
theorem dX2_row_5 : decode cX2_row 5 = .ok (.iload_n 1, 1) := by decide +kernel
theorem dX2_row_6 : decode cX2_row 6 = .ok (.invokevirtual 27, 3) := by decide +kernel
theorem dX2_row_9 : decode cX2_row 9 = .ok (.aaload, 1) := by decide +kernel
theorem dX2_row_10 : decode cX2_row 10 = .ok (.areturn, 1) := by decide +kernel
set_option maxRecDepth 20000 in
theorem ggX2_find_X2_highestNotAbove : GoodIn wsX2_find wsX2_highestNotAbove := goodIn_r _ [5, 6, 7, 8, 9, 4, 10, 11, 12, 13, 14, 15, 16, 17, 18, 19, 20] (by decide +kernel) (by decide +kernel)
set_option maxRecDepth 20000 in
theorem gX2_find_X2_highestNotAbove : GoodIn wsX2_find (wsV RX2 31 RX2 yX2_highestNotAbove wsX2_highestNotAbove) := goodIn_app (goodIn_of _ (by decide +kernel)) ggX2_find_X2_highestNotAbove
set_option maxRecDepth 20000 in
theorem ggX2_find_X2_stepOf : GoodIn wsX2_find wsX2_stepOf := goodIn_r _ [10, 11, 12, 13, 14, 4, 15, 16, 17, 18, 19, 20] (by decide +kernel) (by decide +kernel)
set_option maxRecDepth 20000 in
theorem gX2_find_X2_stepOf : GoodIn wsX2_find (wsV RX2 34 RX2 yX2_stepOf wsX2_stepOf) := goodIn_app (goodIn_of _ (by decide +kernel)) ggX2_find_X2_stepOf
theorem dX2_find_0 : decode cX2_find 0 = .ok (.aload_n 0, 1) := by decide +kernel
theorem dX2_find_1 : decode cX2_find 1 = .ok (.iload_n 1, 1) := by decide +kernel
theorem dX2_find_2 : decode cX2_find 2 = .ok (.invokevirtual 31, 3) := by decide +kernel
theorem dX2_find_5 : decode cX2_find 5 = .ok (.istore_n 2, 1) := by decide +kernel
theorem dX2_find_6 : decode cX2_find 6 = .ok (.iload_n 2, 1) := by decide +kernel
theorem dX2_find_7 : decode cX2_find 7 = .ok (.iconst (-1), 1) := by decide +kernel
theorem dX2_find_8 : decode cX2_find 8 = .ok (.if_icmp .eq 16, 3) := by decide +kernel
theorem dX2_find_11 : decode cX2_find 11 = .ok (.aload_n 0, 1) := by decide +kernel
theorem dX2_find_12 : decode cX2_find 12 = .ok (.iload_n 2, 1) := by decide +kernel
theorem dX2_find_13 : decode cX2_find 13 = .ok (.invokevirtual 34, 3) := by decide +kernel
theorem dX2_find_16 : decode cX2_find 16 = .ok (.iload_n 1, 1) := by decide +kernel
theorem dX2_find_17 : decode cX2_find 17 = .ok (.if_icmp .ne 7, 3) := by decide +kernel
theorem dX2_find_20 : decode cX2_find 20 = .ok (.iload_n 2, 1) := by decide +kernel
theorem dX2_find_21 : decode cX2_find 21 = .ok (.goto 4, 3) := by decide +kernel
theorem dX2_find_24 : decode cX2_find 24 = .ok (.iconst (-1), 1) := by decide +kernel
theorem dX2_find_25 : decode cX2_find 25 = .ok (.ireturn, 1) := by decide +kernel
set_option maxRecDepth 20000 in
theorem ggX2_highestNotAbove_X2_stepOf : GoodIn wsX2_highestNotAbove wsX2_stepOf := goodIn_r _ [6, 7, 8, 9, 10, 5, 11, 12, 13, 14, 15, 16] (by decide +kernel) (by decide +kernel)
set_option maxRecDepth 20000 in
theorem gX2_highestNotAbove_X2_stepOf : GoodIn wsX2_highestNotAbove (wsV RX2 34 RX2 yX2_stepOf wsX2_stepOf) := goodIn_app (goodIn_of _ (by decide +kernel)) ggX2_highestNotAbove_X2_stepOf
theorem dX2_highestNotAbove_0 : decode cX2_highestNotAbove 0 = .ok (.aload_n 0, 1) := by decide +kernel
theorem dX2_highestNotAbove_1 : decode cX2_highestNotAbove 1 = .ok (.getfield 20, 3) := by decide +kernel
theorem dX2_highestNotAbove_4 : decode cX2_highestNotAbove 4 = .ok (.iconst 1, 1) := by decide +kernel
theorem dX2_highestNotAbove_5 : decode cX2_highestNotAbove 5 = .ok (.isub, 1) := by decide +kernel
theorem dX2_highestNotAbove_6 : decode cX2_highestNotAbove 6 = .ok (.istore_n 2, 1) := by decide +kernel
theorem dX2_highestNotAbove_7 : decode cX2_highestNotAbove 7 = .ok (.iload_n 2, 1) := by decide +kernel
theorem dX2_highestNotAbove_8 : decode cX2_highestNotAbove 8 = .ok (.ifCond .lt 20, 3) := by decide +kernel
theorem dX2_highestNotAbove_11 : decode cX2_highestNotAbove 11 = .ok (.aload_n 0, 1) := by decide +kernel
theorem dX2_highestNotAbove_12 : decode cX2_highestNotAbove 12 = .ok (.iload_n 2, 1) := by decide +kernel
theorem dX2_highestNotAbove_13 : decode cX2_highestNotAbove 13 = .ok (.invokevirtual 34, 3) := by decide +kernel
theorem dX2_highestNotAbove_16 : decode cX2_highestNotAbove 16 = .ok (.iload_n 1, 1) := by decide +kernel
theorem dX2_highestNotAbove_17 : decode cX2_highestNotAbove 17 = .ok (.if_icmp .gt 5, 3) := by decide +kernel
theorem dX2_highestNotAbove_20 : decode cX2_highestNotAbove 20 = .ok (.iload_n 2, 1) := by decide +kernel
theorem dX2_highestNotAbove_21 : decode cX2_highestNotAbove 21 = .ok (.ireturn, 1) := by decide +kernel
theorem dX2_highestNotAbove_22 : decode cX2_highestNotAbove 22 = .ok (.iinc 2 (-1), 3) := by decide +kernel
theorem dX2_highestNotAbove_25 : decode cX2_highestNotAbove 25 = .ok (.goto (-18), 3) := by decide +kernel
theorem dX2_highestNotAbove_28 : decode cX2_highestNotAbove 28 = .ok (.iconst (-1), 1) := by decide +kernel
theorem dX2_highestNotAbove_29 : decode cX2_highestNotAbove 29 = .ok (.ireturn, 1) := by decide +kernel
set_option maxRecDepth 20000 in
theorem ggX2_take_X2_stepOf : GoodIn wsX2_take wsX2_stepOf := goodIn_r _ [13, 3, 14, 15, 16, 12, 17, 2, 18, 19, 20, 21] (by decide +kernel) (by decide +kernel)
set_option maxRecDepth 20000 in
theorem gX2_take_X2_stepOf : GoodIn wsX2_take (wsV RX2 34 RX2 yX2_stepOf wsX2_stepOf) := goodIn_app (goodIn_of _ (by decide +kernel)) ggX2_take_X2_stepOf
set_option maxRecDepth 20000 in
theorem ggX2_take_X2_slot : GoodIn wsX2_take wsX2_slot := goodIn_r _ [17, 2, 18, 19, 20, 21] (by decide +kernel) (by decide +kernel)
set_option maxRecDepth 20000 in
theorem gX2_take_X2_slot : GoodIn wsX2_take (wsV RX2 27 RX2 yX2_slot wsX2_slot) := goodIn_app (goodIn_of _ (by decide +kernel)) ggX2_take_X2_slot
theorem dX2_take_0 : decode cX2_take 0 = .ok (.aload_n 0, 1) := by decide +kernel
theorem dX2_take_1 : decode cX2_take 1 = .ok (.getfield 20, 3) := by decide +kernel
theorem dX2_take_4 : decode cX2_take 4 = .ok (.ifCond .eq 17, 3) := by decide +kernel
theorem dX2_take_7 : decode cX2_take 7 = .ok (.aload_n 0, 1) := by decide +kernel
theorem dX2_take_8 : decode cX2_take 8 = .ok (.aload_n 0, 1) := by decide +kernel
theorem dX2_take_9 : decode cX2_take 9 = .ok (.getfield 20, 3) := by decide +kernel
theorem dX2_take_12 : decode cX2_take 12 = .ok (.iconst 1, 1) := by decide +kernel
theorem dX2_take_13 : decode cX2_take 13 = .ok (.isub, 1) := by decide +kernel
theorem dX2_take_14 : decode cX2_take 14 = .ok (.invokevirtual 34, 3) := by decide +kernel
theorem dX2_take_17 : decode cX2_take 17 = .ok (.iload_n 1, 1) := by decide +kernel
theorem dX2_take_18 : decode cX2_take 18 = .ok (.if_icmp .eq 7, 3) := by decide +kernel
theorem dX2_take_21 : decode cX2_take 21 = .ok (.iconst 1, 1) := by decide +kernel
theorem dX2_take_22 : decode cX2_take 22 = .ok (.goto 4, 3) := by decide +kernel
theorem dX2_take_25 : decode cX2_take 25 = .ok (.iconst 0, 1) := by decide +kernel
theorem dX2_take_26 : decode cX2_take 26 = .ok (.istore_n 3, 1) := by decide +kernel
theorem dX2_take_27 : decode cX2_take 27 = .ok (.iload_n 3, 1) := by decide +kernel
theorem dX2_take_28 : decode cX2_take 28 = .ok (.ifCond .eq 16, 3) := by decide +kernel
theorem dX2_take_31 : decode cX2_take 31 = .ok (.aload_n 0, 1) := by decide +kernel
theorem dX2_take_32 : decode cX2_take 32 = .ok (.getfield 20, 3) := by decide +kernel
theorem dX2_take_35 : decode cX2_take 35 = .ok (.bipush 16, 2) := by decide +kernel
theorem dX2_take_37 : decode cX2_take 37 = .ok (.if_icmp .ne 7, 3) := by decide +kernel
theorem dX2_take_40 : decode cX2_take 40 = .ok (.iconst 1, 1) := by decide +kernel
theorem dX2_take_41 : decode cX2_take 41 = .ok (.goto 4, 3) := by decide +kernel
theorem dX2_take_44 : decode cX2_take 44 = .ok (.iconst 0, 1) := by decide +kernel
theorem dX2_take_45 : decode cX2_take 45 = .ok (.istore 4, 2) := by decide +kernel
theorem dX2_take_47 : decode cX2_take 47 = .ok (.iload 4, 2) := by decide +kernel
theorem dX2_take_49 : decode cX2_take 49 = .ok (.ifCond .eq 22, 3) := by decide +kernel
theorem dX2_take_52 : decode cX2_take 52 = .ok (.aload_n 0, 1) := by decide +kernel
theorem dX2_take_53 : decode cX2_take 53 = .ok (.aload_n 0, 1) := by decide +kernel
theorem dX2_take_54 : decode cX2_take 54 = .ok (.iconst 1, 1) := by decide +kernel
theorem dX2_take_55 : decode cX2_take 55 = .ok (.invokevirtual 27, 3) := by decide +kernel
theorem dX2_take_58 : decode cX2_take 58 = .ok (.putfield 24, 3) := by decide +kernel
theorem dX2_take_61 : decode cX2_take 61 = .ok (.aload_n 0, 1) := by decide +kernel
theorem dX2_take_62 : decode cX2_take 62 = .ok (.dup, 1) := by decide +kernel
theorem dX2_take_63 : decode cX2_take 63 = .ok (.getfield 20, 3) := by decide +kernel
theorem dX2_take_66 : decode cX2_take 66 = .ok (.iconst 1, 1) := by decide +kernel
theorem dX2_take_67 : decode cX2_take 67 = .ok (.isub, 1) := by decide +kernel
theorem dX2_take_68 : decode cX2_take 68 = .ok (.putfield 20, 3) := by decide +kernel
theorem dX2_take_71 : decode cX2_take 71 = .ok (.iload_n 3, 1) := by decide +kernel
theorem dX2_take_72 : decode cX2_take 72 = .ok (.ifCond .eq 13, 3) := by decide +kernel
theorem dX2_take_75 : decode cX2_take 75 = .ok (.aload_n 0, 1) := by decide +kernel
theorem dX2_take_76 : decode cX2_take 76 = .ok (.dup, 1) := by decide +kernel
theorem dX2_take_77 : decode cX2_take 77 = .ok (.getfield 20, 3) := by decide +kernel
theorem dX2_take_80 : decode cX2_take 80 = .ok (.iconst 1, 1) := by decide +kernel
theorem dX2_take_81 : decode cX2_take 81 = .ok (.iadd, 1) := by decide +kernel
theorem dX2_take_82 : decode cX2_take 82 = .ok (.putfield 20, 3) := by decide +kernel
theorem dX2_take_85 : decode cX2_take 85 = .ok (.aload_n 0, 1) := by decide +kernel
theorem dX2_take_86 : decode cX2_take 86 = .ok (.aload_n 0, 1) := by decide +kernel
theorem dX2_take_87 : decode cX2_take 87 = .ok (.getfield 20, 3) := by decide +kernel
theorem dX2_take_90 : decode cX2_take 90 = .ok (.iconst 1, 1) := by decide +kernel
theorem dX2_take_91 : decode cX2_take 91 = .ok (.isub, 1) := by decide +kernel
theorem dX2_take_92 : decode cX2_take 92 = .ok (.invokevirtual 27, 3) := by decide +kernel
theorem dX2_take_95 : decode cX2_take 95 = .ok (.istore 5, 2) := by decide +kernel
theorem dX2_take_97 : decode cX2_take 97 = .ok (.aload_n 0, 1) := by decide +kernel
theorem dX2_take_98 : decode cX2_take 98 = .ok (.getfield 9, 3) := by decide +kernel
theorem dX2_take_101 : decode cX2_take 101 = .ok (.iload 5, 2) := by decide +kernel
theorem dX2_take_103 : decode cX2_take 103 = .ok (.iload_n 1, 1) := by decide +kernel
theorem dX2_take_104 : decode cX2_take 104 = .ok (.iastore, 1) := by decide +kernel
theorem dX2_take_105 : decode cX2_take 105 = .ok (.aload_n 2, 1) := by decide +kernel
theorem dX2_take_106 : decode cX2_take 106 = .ok (.iconst 0, 1) := by decide +kernel
theorem dX2_take_107 : decode cX2_take 107 = .ok (.aload_n 0, 1) := by decide +kernel
theorem dX2_take_108 : decode cX2_take 108 = .ok (.getfield 17, 3) := by decide +kernel
theorem dX2_take_111 : decode cX2_take 111 = .ok (.iload 5, 2) := by decide +kernel
theorem dX2_take_113 : decode cX2_take 113 = .ok (.aaload, 1) := by decide +kernel
theorem dX2_take_114 : decode cX2_take 114 = .ok (.iconst 0, 1) := by decide +kernel
theorem dX2_take_115 : decode cX2_take 115 = .ok (.aload_n 2, 1) := by decide +kernel
theorem dX2_take_116 : decode cX2_take 116 = .ok (.arraylength, 1) := by decide +kernel
theorem dX2_take_117 : decode cX2_take 117 = .ok (.invokestatic 37, 3) := by decide +kernel
theorem dX2_take_120 : decode cX2_take 120 = .ok (.iload 4, 2) := by decide +kernel
theorem dX2_take_122 : decode cX2_take 122 = .ok (.ireturn, 1) := by decide +kernel
theorem dX2_dropBehind_0 : decode cX2_dropBehind 0 = .ok (.aload_n 0, 1) := by decide +kernel
theorem dX2_dropBehind_1 : decode cX2_dropBehind 1 = .ok (.getfield 20, 3) := by decide +kernel
theorem dX2_dropBehind_4 : decode cX2_dropBehind 4 = .ok (.iconst 1, 1) := by decide +kernel
theorem dX2_dropBehind_5 : decode cX2_dropBehind 5 = .ok (.isub, 1) := by decide +kernel
theorem dX2_dropBehind_6 : decode cX2_dropBehind 6 = .ok (.iload_n 1, 1) := by decide +kernel
theorem dX2_dropBehind_7 : decode cX2_dropBehind 7 = .ok (.isub, 1) := by decide +kernel
theorem dX2_dropBehind_8 : decode cX2_dropBehind 8 = .ok (.istore_n 2, 1) := by decide +kernel
theorem dX2_dropBehind_9 : decode cX2_dropBehind 9 = .ok (.aload_n 0, 1) := by decide +kernel
theorem dX2_dropBehind_10 : decode cX2_dropBehind 10 = .ok (.iload_n 1, 1) := by decide +kernel
theorem dX2_dropBehind_11 : decode cX2_dropBehind 11 = .ok (.iconst 1, 1) := by decide +kernel
theorem dX2_dropBehind_12 : decode cX2_dropBehind 12 = .ok (.iadd, 1) := by decide +kernel
theorem dX2_dropBehind_13 : decode cX2_dropBehind 13 = .ok (.putfield 20, 3) := by decide +kernel
theorem dX2_dropBehind_16 : decode cX2_dropBehind 16 = .ok (.iload_n 2, 1) := by decide +kernel
theorem dX2_dropBehind_17 : decode cX2_dropBehind 17 = .ok (.ireturn, 1) := by decide +kernel
set_option maxRecDepth 20000 in
theorem ggX3_init_X0_init : GoodIn wsX3_init wsX0_init := goodIn_r _ [19, 20, 2, 3, 21, 22, 23, 4, 24, 46, 47, 48, 49] (by decide +kernel) (by decide +kernel)
set_option maxRecDepth 20000 in
theorem gX3_init_X0_init_n15 : GoodIn wsX3_init (wsX0_init) := ggX3_init_X0_init
set_option maxRecDepth 20000 in
theorem ggX3_init_X1_init : GoodIn wsX3_init wsX1_init := goodIn_r _ [26, 27, 2, 3, 21, 28, 29, 30, 4, 31, 50, 51, 52, 53, 54] (by decide +kernel) (by decide +kernel)
set_option maxRecDepth 20000 in
theorem gX3_init_X1_init_n22 : GoodIn wsX3_init (wsX1_init) := ggX3_init_X1_init
set_option maxRecDepth 20000 in
theorem ggX3_init_X2_init : GoodIn wsX3_init wsX2_init := goodIn_r _ [33, 34, 2, 3, 21, 35, 36, 4, 37, 38, 55, 56, 57, 58] (by decide +kernel) (by decide +kernel)
set_option maxRecDepth 20000 in
theorem gX3_init_X2_init_n29 : GoodIn wsX3_init (wsX2_init) := ggX3_init_X2_init
theorem dX3_init_0 : decode cX3_init 0 = .ok (.aload_n 0, 1) := by decide +kernel
theorem dX3_init_1 : decode cX3_init 1 = .ok (.invokespecial 1, 3) := by decide +kernel
theorem dX3_init_4 : decode cX3_init 4 = .ok (.iload_n 1, 1) := by decide +kernel
theorem dX3_init_5 : decode cX3_init 5 = .ok (.iconst 1, 1) := by decide +kernel
theorem dX3_init_6 : decode cX3_init 6 = .ok (.if_icmp .lt 14, 3) := by decide +kernel
theorem dX3_init_9 : decode cX3_init 9 = .ok (.iload_n 1, 1) := by decide +kernel
theorem dX3_init_10 : decode cX3_init 10 = .ok (.sipush 256, 3) := by decide +kernel
theorem dX3_init_13 : decode cX3_init 13 = .ok (.if_icmp .gt 7, 3) := by decide +kernel
theorem dX3_init_16 : decode cX3_init 16 = .ok (.iload_n 1, 1) := by decide +kernel
theorem dX3_init_17 : decode cX3_init 17 = .ok (.goto 5, 3) := by decide +kernel
theorem dX3_init_20 : decode cX3_init 20 = .ok (.bipush 64, 2) := by decide +kernel
theorem dX3_init_22 : decode cX3_init 22 = .ok (.istore_n 2, 1) := by decide +kernel
theorem dX3_init_23 : decode cX3_init 23 = .ok (.aload_n 0, 1) := by decide +kernel
theorem dX3_init_24 : decode cX3_init 24 = .ok (.iload_n 2, 1) := by decide +kernel
theorem dX3_init_25 : decode cX3_init 25 = .ok (.newarray .float, 2) := by decide +kernel
theorem dX3_init_27 : decode cX3_init 27 = .ok (.putfield 9, 3) := by decide +kernel
theorem dX3_init_30 : decode cX3_init 30 = .ok (.aload_n 0, 1) := by decide +kernel
theorem dX3_init_31 : decode cX3_init 31 = .ok (.new 13, 3) := by decide +kernel
theorem dX3_init_34 : decode cX3_init 34 = .ok (.dup, 1) := by decide +kernel
theorem dX3_init_35 : decode cX3_init 35 = .ok (.invokespecial 15, 3) := by decide +kernel
theorem dX3_init_38 : decode cX3_init 38 = .ok (.putfield 16, 3) := by decide +kernel
theorem dX3_init_41 : decode cX3_init 41 = .ok (.aload_n 0, 1) := by decide +kernel
theorem dX3_init_42 : decode cX3_init 42 = .ok (.new 20, 3) := by decide +kernel
theorem dX3_init_45 : decode cX3_init 45 = .ok (.dup, 1) := by decide +kernel
theorem dX3_init_46 : decode cX3_init 46 = .ok (.invokespecial 22, 3) := by decide +kernel
theorem dX3_init_49 : decode cX3_init 49 = .ok (.putfield 23, 3) := by decide +kernel
theorem dX3_init_52 : decode cX3_init 52 = .ok (.aload_n 0, 1) := by decide +kernel
theorem dX3_init_53 : decode cX3_init 53 = .ok (.new 27, 3) := by decide +kernel
theorem dX3_init_56 : decode cX3_init 56 = .ok (.dup, 1) := by decide +kernel
theorem dX3_init_57 : decode cX3_init 57 = .ok (.iload_n 2, 1) := by decide +kernel
theorem dX3_init_58 : decode cX3_init 58 = .ok (.invokespecial 29, 3) := by decide +kernel
theorem dX3_init_61 : decode cX3_init 61 = .ok (.putfield 32, 3) := by decide +kernel
theorem dX3_init_64 : decode cX3_init 64 = .ok (.return_, 1) := by decide +kernel
set_option maxRecDepth 20000 in
theorem ggX3_drift_X3_needCell : GoodIn wsX3_drift wsX3_needCell := goodIn_ca (goodIn_r _ [14, 15, 16, 17, 26, 27, 28, 29, 30, 31, 32] (by decide +kernel) (by decide +kernel)) (goodIn_sub (fun _ h => List.mem_cons_of_mem _ (List.mem_append_right _ h)) (by decide +kernel))
set_option maxRecDepth 20000 in
theorem gX3_drift_X3_needCell : GoodIn wsX3_drift (wsV RX3 36 RX3 yX3_needCell wsX3_needCell) := goodIn_app (goodIn_of _ (by decide +kernel)) ggX3_drift_X3_needCell
set_option maxRecDepth 20000 in
theorem ggX3_drift_X0_append : GoodIn wsX3_drift wsX0_append := goodIn_r _ [21, 22, 23, 24, 25, 33, 34, 35, 36] (by decide +kernel) (by decide +kernel)
set_option maxRecDepth 20000 in
theorem gX3_drift_X0_append_n63 : GoodIn wsX3_drift (wsX0_append) := ggX3_drift_X0_append
theorem dX3_drift_0 : decode cX3_drift 0 = .ok (.aload_n 0, 1) := by decide +kernel
theorem dX3_drift_1 : decode cX3_drift 1 = .ok (.iload_n 1, 1) := by decide +kernel
theorem dX3_drift_2 : decode cX3_drift 2 = .ok (.invokevirtual 36, 3) := by decide +kernel
theorem dX3_drift_5 : decode cX3_drift 5 = .ok (.aload_n 0, 1) := by decide +kernel
theorem dX3_drift_6 : decode cX3_drift 6 = .ok (.iload_n 2, 1) := by decide +kernel
theorem dX3_drift_7 : decode cX3_drift 7 = .ok (.invokevirtual 36, 3) := by decide +kernel
theorem dX3_drift_10 : decode cX3_drift 10 = .ok (.fload_n 3, 1) := by decide +kernel
theorem dX3_drift_11 : decode cX3_drift 11 = .ok (.ldc 39, 2) := by decide +kernel
theorem dX3_drift_13 : decode cX3_drift 13 = .ok (.fcmp .l, 1) := by decide +kernel
theorem dX3_drift_14 : decode cX3_drift 14 = .ok (.ifCond .lt 10, 3) := by decide +kernel
theorem dX3_drift_17 : decode cX3_drift 17 = .ok (.fload_n 3, 1) := by decide +kernel
theorem dX3_drift_18 : decode cX3_drift 18 = .ok (.ldc 40, 2) := by decide +kernel
theorem dX3_drift_20 : decode cX3_drift 20 = .ok (.fcmp .g, 1) := by decide +kernel
theorem dX3_drift_21 : decode cX3_drift 21 = .ok (.ifCond .le 13, 3) := by decide +kernel
theorem dX3_drift_24 : decode cX3_drift 24 = .ok (.new 41, 3) := by decide +kernel
theorem dX3_drift_27 : decode cX3_drift 27 = .ok (.dup, 1) := by decide +kernel
theorem dX3_drift_28 : decode cX3_drift 28 = .ok (.ldc 43, 2) := by decide +kernel
theorem dX3_drift_30 : decode cX3_drift 30 = .ok (.invokespecial 45, 3) := by decide +kernel
theorem dX3_drift_33 : decode cX3_drift 33 = .ok (.athrow, 1) := by decide +kernel
theorem dX3_drift_34 : decode cX3_drift 34 = .ok (.aload_n 0, 1) := by decide +kernel
theorem dX3_drift_35 : decode cX3_drift 35 = .ok (.getfield 16, 3) := by decide +kernel
theorem dX3_drift_38 : decode cX3_drift 38 = .ok (.getfield 48, 3) := by decide +kernel
theorem dX3_drift_41 : decode cX3_drift 41 = .ok (.bipush 64, 2) := by decide +kernel
theorem dX3_drift_43 : decode cX3_drift 43 = .ok (.if_icmp .lt 13, 3) := by decide +kernel
theorem dX3_drift_46 : decode cX3_drift 46 = .ok (.new 52, 3) := by decide +kernel
theorem dX3_drift_49 : decode cX3_drift 49 = .ok (.dup, 1) := by decide +kernel
theorem dX3_drift_50 : decode cX3_drift 50 = .ok (.ldc 54, 2) := by decide +kernel
theorem dX3_drift_52 : decode cX3_drift 52 = .ok (.invokespecial 56, 3) := by decide +kernel
theorem dX3_drift_55 : decode cX3_drift 55 = .ok (.athrow, 1) := by decide +kernel
theorem dX3_drift_56 : decode cX3_drift 56 = .ok (.aload_n 0, 1) := by decide +kernel
theorem dX3_drift_57 : decode cX3_drift 57 = .ok (.getfield 57, 3) := by decide +kernel
theorem dX3_drift_60 : decode cX3_drift 60 = .ok (.ifCond .ne 13, 3) := by decide +kernel
theorem dX3_drift_63 : decode cX3_drift 63 = .ok (.aload_n 0, 1) := by decide +kernel
theorem dX3_drift_64 : decode cX3_drift 64 = .ok (.getfield 23, 3) := by decide +kernel
theorem dX3_drift_67 : decode cX3_drift 67 = .ok (.getfield 60, 3) := by decide +kernel
theorem dX3_drift_70 : decode cX3_drift 70 = .ok (.ifCond .eq 13, 3) := by decide +kernel
theorem dX3_drift_73 : decode cX3_drift 73 = .ok (.new 52, 3) := by decide +kernel
theorem dX3_drift_76 : decode cX3_drift 76 = .ok (.dup, 1) := by decide +kernel
theorem dX3_drift_77 : decode cX3_drift 77 = .ok (.ldc 61, 2) := by decide +kernel
theorem dX3_drift_79 : decode cX3_drift 79 = .ok (.invokespecial 56, 3) := by decide +kernel
theorem dX3_drift_82 : decode cX3_drift 82 = .ok (.athrow, 1) := by decide +kernel
theorem dX3_drift_83 : decode cX3_drift 83 = .ok (.aload_n 0, 1) := by decide +kernel
theorem dX3_drift_84 : decode cX3_drift 84 = .ok (.getfield 16, 3) := by decide +kernel
theorem dX3_drift_87 : decode cX3_drift 87 = .ok (.iload_n 1, 1) := by decide +kernel
theorem dX3_drift_88 : decode cX3_drift 88 = .ok (.iload_n 2, 1) := by decide +kernel
theorem dX3_drift_89 : decode cX3_drift 89 = .ok (.fload_n 3, 1) := by decide +kernel
theorem dX3_drift_90 : decode cX3_drift 90 = .ok (.invokevirtual 63, 3) := by decide +kernel
theorem dX3_drift_93 : decode cX3_drift 93 = .ok (.aload_n 0, 1) := by decide +kernel
theorem dX3_drift_94 : decode cX3_drift 94 = .ok (.getfield 16, 3) := by decide +kernel
theorem dX3_drift_97 : decode cX3_drift 97 = .ok (.getfield 48, 3) := by decide +kernel
theorem dX3_drift_100 : decode cX3_drift 100 = .ok (.ireturn, 1) := by decide +kernel
theorem dX3_every_0 : decode cX3_every 0 = .ok (.iload_n 1, 1) := by decide +kernel
theorem dX3_every_1 : decode cX3_every 1 = .ok (.ifCond .lt 9, 3) := by decide +kernel
theorem dX3_every_4 : decode cX3_every 4 = .ok (.iload_n 1, 1) := by decide +kernel
theorem dX3_every_5 : decode cX3_every 5 = .ok (.bipush 100, 2) := by decide +kernel
theorem dX3_every_7 : decode cX3_every 7 = .ok (.if_icmp .le 13, 3) := by decide +kernel
theorem dX3_every_10 : decode cX3_every 10 = .ok (.new 41, 3) := by decide +kernel
theorem dX3_every_13 : decode cX3_every 13 = .ok (.dup, 1) := by decide +kernel
theorem dX3_every_14 : decode cX3_every 14 = .ok (.ldc 67, 2) := by decide +kernel
theorem dX3_every_16 : decode cX3_every 16 = .ok (.invokespecial 45, 3) := by decide +kernel
theorem dX3_every_19 : decode cX3_every 19 = .ok (.athrow, 1) := by decide +kernel
theorem dX3_every_20 : decode cX3_every 20 = .ok (.aload_n 0, 1) := by decide +kernel
theorem dX3_every_21 : decode cX3_every 21 = .ok (.getfield 69, 3) := by decide +kernel
theorem dX3_every_24 : decode cX3_every 24 = .ok (.istore_n 2, 1) := by decide +kernel
theorem dX3_every_25 : decode cX3_every 25 = .ok (.aload_n 0, 1) := by decide +kernel
theorem dX3_every_26 : decode cX3_every 26 = .ok (.iload_n 1, 1) := by decide +kernel
theorem dX3_every_27 : decode cX3_every 27 = .ok (.putfield 69, 3) := by decide +kernel
theorem dX3_every_30 : decode cX3_every 30 = .ok (.iload_n 2, 1) := by decide +kernel
theorem dX3_every_31 : decode cX3_every 31 = .ok (.ireturn, 1) := by decide +kernel
set_option maxRecDepth 20000 in
theorem ggX3_input_X3_needCell : GoodIn wsX3_input wsX3_needCell := goodIn_ca (goodIn_r _ [7, 8, 9, 10, 48, 49, 50, 51, 52, 53, 54] (by decide +kernel) (by decide +kernel)) (goodIn_sub (fun _ h => List.mem_cons_of_mem _ (List.mem_append_left _ (List.mem_append_left _ (List.mem_append_right _ h)))) (by decide +kernel))
set_option maxRecDepth 20000 in
theorem gX3_input_X3_needCell : GoodIn wsX3_input (wsV RX3 36 RX3 yX3_needCell wsX3_needCell) := goodIn_app (goodIn_of _ (by decide +kernel)) ggX3_input_X3_needCell
set_option maxRecDepth 20000 in
theorem ggX3_input_X3_needWayAndNumber : GoodIn wsX3_input wsX3_needWayAndNumber := goodIn_ca (goodIn_r _ [13, 14, 15, 16, 17] (by decide +kernel) (by decide +kernel)) (goodIn_sub (fun _ h => List.mem_cons_of_mem _ (List.mem_append_left _ (List.mem_append_right _ h))) (by decide +kernel))
set_option maxRecDepth 20000 in
theorem gX3_input_X3_needWayAndNumber : GoodIn wsX3_input (va_wsS RX3 72 yX3_needWayAndNumber wsX3_needWayAndNumber) := goodIn_app (goodIn_of _ (by decide +kernel)) ggX3_input_X3_needWayAndNumber
set_option maxRecDepth 20000 in
theorem ggX3_input_X3_needRoom : GoodIn wsX3_input wsX3_needRoom := goodIn_ca (goodIn_r _ [21, 22, 23, 1, 48, 49, 50, 51, 52, 53, 54, 55, 56, 57, 58, 59] (by decide +kernel) (by decide +kernel)) (goodIn_sub (fun _ h => List.mem_cons_of_mem _ (List.mem_append_right _ h)) (by decide +kernel))
set_option maxRecDepth 20000 in
theorem gX3_input_X3_needRoom : GoodIn wsX3_input (wsV RX3 76 RX3 yX3_needRoom wsX3_needRoom) := goodIn_app (goodIn_of _ (by decide +kernel)) ggX3_input_X3_needRoom
set_option maxRecDepth 20000 in
theorem ggX3_input_X1_append : GoodIn wsX3_input wsX1_append := goodIn_r _ [27, 28, 29, 30, 31, 32, 33, 34, 35, 25, 36, 37, 38, 39, 40, 41, 42, 43, 44, 55, 56, 57, 58, 59] (by decide +kernel) (by decide +kernel)
set_option maxRecDepth 20000 in
theorem gX3_input_X1_append_n79 : GoodIn wsX3_input (wsX1_append) := ggX3_input_X1_append
set_option maxRecDepth 20000 in
theorem ggX3_input_X1_sizeOf : GoodIn wsX3_input wsX1_sizeOf := goodIn_r _ [47, 33, 34, 35, 25, 36, 32, 28, 55, 56, 57, 58, 59] (by decide +kernel) (by decide +kernel)
set_option maxRecDepth 20000 in
theorem gX3_input_X1_sizeOf_n82 : GoodIn wsX3_input (wsX1_sizeOf) := ggX3_input_X1_sizeOf
theorem dX3_input_0 : decode cX3_input 0 = .ok (.aload_n 0, 1) := by decide +kernel
theorem dX3_input_1 : decode cX3_input 1 = .ok (.iload_n 1, 1) := by decide +kernel
theorem dX3_input_2 : decode cX3_input 2 = .ok (.invokevirtual 36, 3) := by decide +kernel
theorem dX3_input_5 : decode cX3_input 5 = .ok (.iload_n 2, 1) := by decide +kernel
theorem dX3_input_6 : decode cX3_input 6 = .ok (.fload_n 3, 1) := by decide +kernel
theorem dX3_input_7 : decode cX3_input 7 = .ok (.invokestatic 72, 3) := by decide +kernel
theorem dX3_input_10 : decode cX3_input 10 = .ok (.aload_n 0, 1) := by decide +kernel
theorem dX3_input_11 : decode cX3_input 11 = .ok (.iconst 1, 1) := by decide +kernel
theorem dX3_input_12 : decode cX3_input 12 = .ok (.invokevirtual 76, 3) := by decide +kernel
theorem dX3_input_15 : decode cX3_input 15 = .ok (.aload_n 0, 1) := by decide +kernel
theorem dX3_input_16 : decode cX3_input 16 = .ok (.getfield 23, 3) := by decide +kernel
theorem dX3_input_19 : decode cX3_input 19 = .ok (.aload_n 0, 1) := by decide +kernel
theorem dX3_input_20 : decode cX3_input 20 = .ok (.getfield 57, 3) := by decide +kernel
theorem dX3_input_23 : decode cX3_input 23 = .ok (.iload_n 1, 1) := by decide +kernel
theorem dX3_input_24 : decode cX3_input 24 = .ok (.iload_n 2, 1) := by decide +kernel
theorem dX3_input_25 : decode cX3_input 25 = .ok (.fload_n 3, 1) := by decide +kernel
theorem dX3_input_26 : decode cX3_input 26 = .ok (.invokevirtual 79, 3) := by decide +kernel
theorem dX3_input_29 : decode cX3_input 29 = .ok (.aload_n 0, 1) := by decide +kernel
theorem dX3_input_30 : decode cX3_input 30 = .ok (.getfield 23, 3) := by decide +kernel
theorem dX3_input_33 : decode cX3_input 33 = .ok (.aload_n 0, 1) := by decide +kernel
theorem dX3_input_34 : decode cX3_input 34 = .ok (.getfield 57, 3) := by decide +kernel
theorem dX3_input_37 : decode cX3_input 37 = .ok (.invokevirtual 82, 3) := by decide +kernel
theorem dX3_input_40 : decode cX3_input 40 = .ok (.ireturn, 1) := by decide +kernel
set_option maxRecDepth 20000 in
theorem ggX3_inputs_X3_needCell : GoodIn wsX3_inputs wsX3_needCell := goodIn_ca (goodIn_r _ [9, 10, 11, 12, 52, 53, 54, 55, 56, 57, 58] (by decide +kernel) (by decide +kernel)) (goodIn_sub (fun _ h => List.mem_cons_of_mem _ (List.mem_append_left _ (List.mem_append_right _ h))) (by decide +kernel))
set_option maxRecDepth 20000 in
theorem gX3_inputs_X3_needCell : GoodIn wsX3_inputs (wsV RX3 36 RX3 yX3_needCell wsX3_needCell) := goodIn_app (goodIn_of _ (by decide +kernel)) ggX3_inputs_X3_needCell
set_option maxRecDepth 20000 in
theorem ggX3_inputs_X3_needLastCell : GoodIn wsX3_inputs wsX3_needLastCell := goodIn_ca (goodIn_r _ [16, 10, 11, 12, 52, 53, 54, 55, 56, 57, 58] (by decide +kernel) (by decide +kernel)) (goodIn_sub (fun _ h => List.mem_cons_of_mem _ (List.mem_append_left _ (List.mem_append_right _ h))) (by decide +kernel))
set_option maxRecDepth 20000 in
theorem gX3_inputs_X3_needLastCell : GoodIn wsX3_inputs (wsV RX3 88 RX3 yX3_needLastCell wsX3_needLastCell) := goodIn_app (goodIn_of _ (by decide +kernel)) ggX3_inputs_X3_needLastCell
set_option maxRecDepth 20000 in
theorem ggX3_inputs_X3_needWayAndNumber : GoodIn wsX3_inputs wsX3_needWayAndNumber := goodIn_ca (goodIn_r _ [19, 1, 2, 20, 21] (by decide +kernel) (by decide +kernel)) (goodIn_sub (fun _ h => List.mem_cons_of_mem _ (List.mem_append_left _ (List.mem_append_left _ (List.mem_append_right _ h)))) (by decide +kernel))
set_option maxRecDepth 20000 in
theorem gX3_inputs_X3_needWayAndNumber : GoodIn wsX3_inputs (va_wsS RX3 72 yX3_needWayAndNumber wsX3_needWayAndNumber) := goodIn_app (goodIn_of _ (by decide +kernel)) ggX3_inputs_X3_needWayAndNumber
set_option maxRecDepth 20000 in
theorem ggX3_inputs_X3_needRoom : GoodIn wsX3_inputs wsX3_needRoom := goodIn_ca (goodIn_r _ [25, 26, 27, 3, 52, 53, 54, 55, 56, 57, 58, 59, 60, 61, 62, 63] (by decide +kernel) (by decide +kernel)) (goodIn_sub (fun _ h => List.mem_cons_of_mem _ (List.mem_append_right _ h)) (by decide +kernel))
set_option maxRecDepth 20000 in
theorem gX3_inputs_X3_needRoom : GoodIn wsX3_inputs (wsV RX3 76 RX3 yX3_needRoom wsX3_needRoom) := goodIn_app (goodIn_of _ (by decide +kernel)) ggX3_inputs_X3_needRoom
set_option maxRecDepth 20000 in
theorem ggX3_inputs_X1_append : GoodIn wsX3_inputs wsX1_append := goodIn_r _ [31, 32, 33, 34, 35, 36, 37, 38, 39, 29, 40, 41, 42, 43, 44, 45, 46, 47, 48, 59, 60, 61, 62, 63] (by decide +kernel) (by decide +kernel)
set_option maxRecDepth 20000 in
theorem gX3_inputs_X1_append_n79 : GoodIn wsX3_inputs (wsX1_append) := ggX3_inputs_X1_append
set_option maxRecDepth 20000 in
theorem ggX3_inputs_X1_sizeOf : GoodIn wsX3_inputs wsX1_sizeOf := goodIn_r _ [51, 37, 38, 39, 29, 40, 36, 32, 59, 60, 61, 62, 63] (by decide +kernel) (by decide +kernel)
set_option maxRecDepth 20000 in
theorem gX3_inputs_X1_sizeOf_n82 : GoodIn wsX3_inputs (wsX1_sizeOf) := ggX3_inputs_X1_sizeOf
theorem dX3_inputs_0 : decode cX3_inputs 0 = .ok (.aload_n 0, 1) := by decide +kernel
theorem dX3_inputs_1 : decode cX3_inputs 1 = .ok (.iload_n 1, 1) := by decide +kernel
theorem dX3_inputs_2 : decode cX3_inputs 2 = .ok (.invokevirtual 36, 3) := by decide +kernel
theorem dX3_inputs_5 : decode cX3_inputs 5 = .ok (.iload_n 3, 1) := by decide +kernel
theorem dX3_inputs_6 : decode cX3_inputs 6 = .ok (.iconst 1, 1) := by decide +kernel
theorem dX3_inputs_7 : decode cX3_inputs 7 = .ok (.if_icmp .lt 10, 3) := by decide +kernel
theorem dX3_inputs_10 : decode cX3_inputs 10 = .ok (.iload_n 3, 1) := by decide +kernel
theorem dX3_inputs_11 : decode cX3_inputs 11 = .ok (.sipush 256, 3) := by decide +kernel
theorem dX3_inputs_14 : decode cX3_inputs 14 = .ok (.if_icmp .le 13, 3) := by decide +kernel
theorem dX3_inputs_17 : decode cX3_inputs 17 = .ok (.new 41, 3) := by decide +kernel
theorem dX3_inputs_20 : decode cX3_inputs 20 = .ok (.dup, 1) := by decide +kernel
theorem dX3_inputs_21 : decode cX3_inputs 21 = .ok (.ldc 86, 2) := by decide +kernel
theorem dX3_inputs_23 : decode cX3_inputs 23 = .ok (.invokespecial 45, 3) := by decide +kernel
theorem dX3_inputs_26 : decode cX3_inputs 26 = .ok (.athrow, 1) := by decide +kernel
theorem dX3_inputs_27 : decode cX3_inputs 27 = .ok (.aload_n 0, 1) := by decide +kernel
theorem dX3_inputs_28 : decode cX3_inputs 28 = .ok (.iload_n 1, 1) := by decide +kernel
theorem dX3_inputs_29 : decode cX3_inputs 29 = .ok (.iload_n 2, 1) := by decide +kernel
theorem dX3_inputs_30 : decode cX3_inputs 30 = .ok (.iload_n 3, 1) := by decide +kernel
theorem dX3_inputs_31 : decode cX3_inputs 31 = .ok (.invokevirtual 88, 3) := by decide +kernel
theorem dX3_inputs_34 : decode cX3_inputs 34 = .ok (.iload 4, 2) := by decide +kernel
theorem dX3_inputs_36 : decode cX3_inputs 36 = .ok (.fload 5, 2) := by decide +kernel
theorem dX3_inputs_38 : decode cX3_inputs 38 = .ok (.invokestatic 72, 3) := by decide +kernel
theorem dX3_inputs_41 : decode cX3_inputs 41 = .ok (.aload_n 0, 1) := by decide +kernel
theorem dX3_inputs_42 : decode cX3_inputs 42 = .ok (.iload_n 3, 1) := by decide +kernel
theorem dX3_inputs_43 : decode cX3_inputs 43 = .ok (.invokevirtual 76, 3) := by decide +kernel
theorem dX3_inputs_46 : decode cX3_inputs 46 = .ok (.iconst 0, 1) := by decide +kernel
theorem dX3_inputs_47 : decode cX3_inputs 47 = .ok (.istore 6, 2) := by decide +kernel
theorem dX3_inputs_49 : decode cX3_inputs 49 = .ok (.iload 6, 2) := by decide +kernel
theorem dX3_inputs_51 : decode cX3_inputs 51 = .ok (.iload_n 3, 1) := by decide +kernel
theorem dX3_inputs_52 : decode cX3_inputs 52 = .ok (.if_icmp .ge 30, 3) := by decide +kernel
theorem dX3_inputs_55 : decode cX3_inputs 55 = .ok (.aload_n 0, 1) := by decide +kernel
theorem dX3_inputs_56 : decode cX3_inputs 56 = .ok (.getfield 23, 3) := by decide +kernel
theorem dX3_inputs_59 : decode cX3_inputs 59 = .ok (.aload_n 0, 1) := by decide +kernel
theorem dX3_inputs_60 : decode cX3_inputs 60 = .ok (.getfield 57, 3) := by decide +kernel
theorem dX3_inputs_63 : decode cX3_inputs 63 = .ok (.iload_n 1, 1) := by decide +kernel
theorem dX3_inputs_64 : decode cX3_inputs 64 = .ok (.iload 6, 2) := by decide +kernel
theorem dX3_inputs_66 : decode cX3_inputs 66 = .ok (.iload_n 2, 1) := by decide +kernel
theorem dX3_inputs_67 : decode cX3_inputs 67 = .ok (.imul, 1) := by decide +kernel
theorem dX3_inputs_68 : decode cX3_inputs 68 = .ok (.iadd, 1) := by decide +kernel
theorem dX3_inputs_69 : decode cX3_inputs 69 = .ok (.iload 4, 2) := by decide +kernel
theorem dX3_inputs_71 : decode cX3_inputs 71 = .ok (.fload 5, 2) := by decide +kernel
theorem dX3_inputs_73 : decode cX3_inputs 73 = .ok (.invokevirtual 79, 3) := by decide +kernel
theorem dX3_inputs_76 : decode cX3_inputs 76 = .ok (.iinc 6 1, 3) := by decide +kernel
theorem dX3_inputs_79 : decode cX3_inputs 79 = .ok (.goto (-30), 3) := by decide +kernel
theorem dX3_inputs_82 : decode cX3_inputs 82 = .ok (.aload_n 0, 1) := by decide +kernel
theorem dX3_inputs_83 : decode cX3_inputs 83 = .ok (.getfield 23, 3) := by decide +kernel
theorem dX3_inputs_86 : decode cX3_inputs 86 = .ok (.aload_n 0, 1) := by decide +kernel
theorem dX3_inputs_87 : decode cX3_inputs 87 = .ok (.getfield 57, 3) := by decide +kernel
theorem dX3_inputs_90 : decode cX3_inputs 90 = .ok (.invokevirtual 82, 3) := by decide +kernel
theorem dX3_inputs_93 : decode cX3_inputs 93 = .ok (.ireturn, 1) := by decide +kernel
set_option maxRecDepth 20000 in
theorem ggX3_step_X3_doSteps : GoodIn wsX3_step wsX3_doSteps := goodIn_r _ [8, 9, 3, 10, 11, 12, 13, 14, 15, 16, 17, 18, 19, 20, 21, 22, 23, 24, 25, 26, 27, 28, 29, 30, 7, 31, 32, 33, 34, 35, 36, 37, 38, 39, 40, 41, 42, 43, 44, 45, 46, 47, 48, 49, 50, 51, 52, 53, 54, 55, 56, 57, 58, 59, 60, 61, 62, 63, 64, 65, 66, 67, 68, 69, 70, 71, 72, 73, 74, 75, 76, 77, 78, 79, 80, 81, 82, 83, 84, 85, 86, 87, 88, 89, 90, 91, 92, 93, 94] (by decide +kernel) (by decide +kernel)
set_option maxRecDepth 20000 in
theorem gX3_step_X3_doSteps : GoodIn wsX3_step (wsV RX3 94 RX3 yX3_doSteps wsX3_doSteps) := goodIn_app (goodIn_of _ (by decide +kernel)) ggX3_step_X3_doSteps
theorem dX3_step_0 : decode cX3_step 0 = .ok (.iload_n 1, 1) := by decide +kernel
theorem dX3_step_1 : decode cX3_step 1 = .ok (.iconst 1, 1) := by decide +kernel
theorem dX3_step_2 : decode cX3_step 2 = .ok (.if_icmp .lt 9, 3) := by decide +kernel
theorem dX3_step_5 : decode cX3_step 5 = .ok (.iload_n 1, 1) := by decide +kernel
theorem dX3_step_6 : decode cX3_step 6 = .ok (.bipush 64, 2) := by decide +kernel
theorem dX3_step_8 : decode cX3_step 8 = .ok (.if_icmp .le 13, 3) := by decide +kernel
theorem dX3_step_11 : decode cX3_step 11 = .ok (.new 41, 3) := by decide +kernel
theorem dX3_step_14 : decode cX3_step 14 = .ok (.dup, 1) := by decide +kernel
theorem dX3_step_15 : decode cX3_step 15 = .ok (.ldc 92, 2) := by decide +kernel
theorem dX3_step_17 : decode cX3_step 17 = .ok (.invokespecial 45, 3) := by decide +kernel
theorem dX3_step_20 : decode cX3_step 20 = .ok (.athrow, 1) := by decide +kernel
theorem dX3_step_21 : decode cX3_step 21 = .ok (.aload_n 0, 1) := by decide +kernel
theorem dX3_step_22 : decode cX3_step 22 = .ok (.iload_n 1, 1) := by decide +kernel
theorem dX3_step_23 : decode cX3_step 23 = .ok (.invokevirtual 94, 3) := by decide +kernel
theorem dX3_step_26 : decode cX3_step 26 = .ok (.aload_n 0, 1) := by decide +kernel
theorem dX3_step_27 : decode cX3_step 27 = .ok (.getfield 57, 3) := by decide +kernel
theorem dX3_step_30 : decode cX3_step 30 = .ok (.ireturn, 1) := by decide +kernel
set_option maxRecDepth 20000 in
theorem ggX3_keep_X3_keepPresent : GoodIn wsX3_keep wsX3_keepPresent := goodIn_r _ [6, 1, 7, 8, 9, 10, 11, 12, 13, 14, 15, 16, 17, 18, 19, 20, 21, 22, 23, 24, 25, 26, 27, 28, 29, 30, 31, 32, 33, 34, 35, 36, 37, 38, 39, 40, 41, 42, 43, 44, 45, 46, 47, 48, 49, 50, 51, 52, 53, 54, 55, 56, 57, 58, 59, 60, 61, 62, 63] (by decide +kernel) (by decide +kernel)
set_option maxRecDepth 20000 in
theorem gX3_keep_X3_keepPresent : GoodIn wsX3_keep (wsV RX3 97 RX3 yX3_keepPresent wsX3_keepPresent) := goodIn_app (goodIn_of _ (by decide +kernel)) ggX3_keep_X3_keepPresent
theorem dX3_keep_0 : decode cX3_keep 0 = .ok (.aload_n 0, 1) := by decide +kernel
theorem dX3_keep_1 : decode cX3_keep 1 = .ok (.invokevirtual 97, 3) := by decide +kernel
theorem dX3_keep_4 : decode cX3_keep 4 = .ok (.aload_n 0, 1) := by decide +kernel
theorem dX3_keep_5 : decode cX3_keep 5 = .ok (.getfield 32, 3) := by decide +kernel
theorem dX3_keep_8 : decode cX3_keep 8 = .ok (.getfield 100, 3) := by decide +kernel
theorem dX3_keep_11 : decode cX3_keep 11 = .ok (.ireturn, 1) := by decide +kernel
set_option maxRecDepth 20000 in
theorem ggX3_back_X3_neededSnapshot : GoodIn wsX3_back wsX3_neededSnapshot := goodIn_ca (goodIn_r _ [5, 6, 7, 8, 9, 10, 11, 12, 13, 14, 15, 16, 17, 18, 19, 20, 21, 22, 23, 24, 25, 26, 27, 45, 46, 47, 48, 49, 50, 51, 52, 53, 54, 55] (by decide +kernel) (by decide +kernel)) (goodIn_sub (fun _ h => List.mem_cons_of_mem _ (List.mem_append_right _ h)) (by decide +kernel))
set_option maxRecDepth 20000 in
theorem gX3_back_X3_neededSnapshot : GoodIn wsX3_back (wsV RX3 101 RX3 yX3_neededSnapshot wsX3_neededSnapshot) := goodIn_app (goodIn_of _ (by decide +kernel)) ggX3_back_X3_neededSnapshot
set_option maxRecDepth 20000 in
theorem ggX3_back_X3_goBackTo : GoodIn wsX3_back wsX3_goBackTo := goodIn_r _ [31, 8, 32, 33, 34, 35, 36, 37, 38, 10, 39, 40, 41, 23, 24, 25, 26, 27, 19, 20, 21, 22, 42, 43, 44, 17, 45, 46, 47, 48, 49, 50, 51, 52, 53, 54, 55] (by decide +kernel) (by decide +kernel)
set_option maxRecDepth 20000 in
theorem gX3_back_X3_goBackTo : GoodIn wsX3_back (wsV RX3 104 RX3 yX3_goBackTo wsX3_goBackTo) := goodIn_app (goodIn_of _ (by decide +kernel)) ggX3_back_X3_goBackTo
theorem dX3_back_0 : decode cX3_back 0 = .ok (.aload_n 0, 1) := by decide +kernel
theorem dX3_back_1 : decode cX3_back 1 = .ok (.aload_n 0, 1) := by decide +kernel
theorem dX3_back_2 : decode cX3_back 2 = .ok (.iload_n 1, 1) := by decide +kernel
theorem dX3_back_3 : decode cX3_back 3 = .ok (.invokevirtual 101, 3) := by decide +kernel
theorem dX3_back_6 : decode cX3_back 6 = .ok (.invokevirtual 104, 3) := by decide +kernel
theorem dX3_back_9 : decode cX3_back 9 = .ok (.ireturn, 1) := by decide +kernel
set_option maxRecDepth 20000 in
theorem ggX3_forget_X1_dropFrom : GoodIn wsX3_forget wsX1_dropFrom := goodIn_r _ [8, 9, 10, 11, 12, 6, 13, 14, 22, 23, 24, 25, 26] (by decide +kernel) (by decide +kernel)
set_option maxRecDepth 20000 in
theorem gX3_forget_X1_dropFrom_n109 : GoodIn wsX3_forget (wsX1_dropFrom) := ggX3_forget_X1_dropFrom
theorem dX3_forget_0 : decode cX3_forget 0 = .ok (.iload_n 1, 1) := by decide +kernel
theorem dX3_forget_1 : decode cX3_forget 1 = .ok (.aload_n 0, 1) := by decide +kernel
theorem dX3_forget_2 : decode cX3_forget 2 = .ok (.getfield 57, 3) := by decide +kernel
theorem dX3_forget_5 : decode cX3_forget 5 = .ok (.if_icmp .ge 13, 3) := by decide +kernel
theorem dX3_forget_8 : decode cX3_forget 8 = .ok (.new 41, 3) := by decide +kernel
theorem dX3_forget_11 : decode cX3_forget 11 = .ok (.dup, 1) := by decide +kernel
theorem dX3_forget_12 : decode cX3_forget 12 = .ok (.ldc 107, 2) := by decide +kernel
theorem dX3_forget_14 : decode cX3_forget 14 = .ok (.invokespecial 45, 3) := by decide +kernel
theorem dX3_forget_17 : decode cX3_forget 17 = .ok (.athrow, 1) := by decide +kernel
theorem dX3_forget_18 : decode cX3_forget 18 = .ok (.aload_n 0, 1) := by decide +kernel
theorem dX3_forget_19 : decode cX3_forget 19 = .ok (.getfield 23, 3) := by decide +kernel
theorem dX3_forget_22 : decode cX3_forget 22 = .ok (.iload_n 1, 1) := by decide +kernel
theorem dX3_forget_23 : decode cX3_forget 23 = .ok (.invokevirtual 109, 3) := by decide +kernel
theorem dX3_forget_26 : decode cX3_forget 26 = .ok (.ireturn, 1) := by decide +kernel
set_option maxRecDepth 20000 in
theorem ggX3_late_X3_needCell : GoodIn wsX3_late wsX3_needCell := goodIn_ca (goodIn_r _ [12, 13, 14, 15, 111, 112, 113, 114, 115, 116, 117] (by decide +kernel) (by decide +kernel)) (goodIn_sub (fun _ h => List.mem_cons_of_mem _ (List.mem_append_right _ h)) (by decide +kernel))
set_option maxRecDepth 20000 in
theorem gX3_late_X3_needCell : GoodIn wsX3_late (wsV RX3 36 RX3 yX3_needCell wsX3_needCell) := goodIn_app (goodIn_of _ (by decide +kernel)) ggX3_late_X3_needCell
set_option maxRecDepth 20000 in
theorem ggX3_late_X3_needWayAndNumber : GoodIn wsX3_late wsX3_needWayAndNumber := goodIn_ca (goodIn_r _ [18, 1, 2, 19, 20] (by decide +kernel) (by decide +kernel)) (goodIn_sub (fun _ h => List.mem_cons_of_mem _ (List.mem_append_left _ (List.mem_append_left _ (List.mem_append_right _ h)))) (by decide +kernel))
set_option maxRecDepth 20000 in
theorem gX3_late_X3_needWayAndNumber : GoodIn wsX3_late (va_wsS RX3 72 yX3_needWayAndNumber wsX3_needWayAndNumber) := goodIn_app (goodIn_of _ (by decide +kernel)) ggX3_late_X3_needWayAndNumber
set_option maxRecDepth 20000 in
theorem ggX3_late_X3_needRoom : GoodIn wsX3_late wsX3_needRoom := goodIn_ca (goodIn_r _ [24, 3, 4, 7, 111, 112, 113, 114, 115, 116, 117, 118, 119, 120, 121, 122] (by decide +kernel) (by decide +kernel)) (goodIn_sub (fun _ h => List.mem_cons_of_mem _ (List.mem_append_left _ (List.mem_append_right _ h))) (by decide +kernel))
set_option maxRecDepth 20000 in
theorem gX3_late_X3_needRoom : GoodIn wsX3_late (wsV RX3 76 RX3 yX3_needRoom wsX3_needRoom) := goodIn_app (goodIn_of _ (by decide +kernel)) ggX3_late_X3_needRoom
set_option maxRecDepth 20000 in
theorem ggX3_late_X2_highestNotAbove : GoodIn wsX3_late wsX2_highestNotAbove := goodIn_r _ [28, 29, 30, 31, 32, 26, 33, 34, 35, 36, 37, 38, 39, 123, 124, 125, 126] (by decide +kernel) (by decide +kernel)
set_option maxRecDepth 20000 in
theorem gX3_late_X2_highestNotAbove_n114 : GoodIn wsX3_late (wsX2_highestNotAbove) := ggX3_late_X2_highestNotAbove
set_option maxRecDepth 20000 in
theorem ggX3_late_X1_append : GoodIn wsX3_late wsX1_append := goodIn_r _ [43, 44, 45, 46, 47, 48, 49, 50, 51, 41, 52, 53, 54, 55, 56, 57, 58, 59, 60, 118, 119, 120, 121, 122] (by decide +kernel) (by decide +kernel)
set_option maxRecDepth 20000 in
theorem gX3_late_X1_append_n79 : GoodIn wsX3_late (wsX1_append) := ggX3_late_X1_append
set_option maxRecDepth 20000 in
theorem ggX3_late_X3_stepAgainFrom : GoodIn wsX3_late wsX3_stepAgainFrom := goodIn_r _ [64, 5, 65, 66, 67, 11, 68, 6, 15, 69, 58, 59, 60, 70, 26, 71, 72, 73, 35, 36, 37, 38, 39, 31, 32, 33, 34, 74, 75, 76, 29, 77, 78, 79, 80, 7, 81, 82, 83, 84, 41, 85, 86, 45, 46, 47, 49, 50, 51, 52, 48, 44, 87, 88, 89, 90, 91, 19, 20, 92, 93, 94, 95, 96, 97, 98, 99, 100, 101, 102, 103, 104, 105, 106, 107, 30, 108, 109, 110, 53, 54, 55, 56, 57, 111, 112, 113, 114, 115, 116, 117, 123, 124, 125, 126, 118, 119, 120, 121, 122, 127, 128, 129, 130] (by decide +kernel) (by decide +kernel)
set_option maxRecDepth 20000 in
theorem gX3_late_X3_stepAgainFrom : GoodIn wsX3_late (wsV RX3 119 RX3 yX3_stepAgainFrom wsX3_stepAgainFrom) := goodIn_app (goodIn_of _ (by decide +kernel)) ggX3_late_X3_stepAgainFrom
theorem dX3_late_0 : decode cX3_late 0 = .ok (.aload_n 0, 1) := by decide +kernel
theorem dX3_late_1 : decode cX3_late 1 = .ok (.iload_n 2, 1) := by decide +kernel
theorem dX3_late_2 : decode cX3_late 2 = .ok (.invokevirtual 36, 3) := by decide +kernel
theorem dX3_late_5 : decode cX3_late 5 = .ok (.iload_n 3, 1) := by decide +kernel
theorem dX3_late_6 : decode cX3_late 6 = .ok (.fload 4, 2) := by decide +kernel
theorem dX3_late_8 : decode cX3_late 8 = .ok (.invokestatic 72, 3) := by decide +kernel
theorem dX3_late_11 : decode cX3_late 11 = .ok (.iload_n 1, 1) := by decide +kernel
theorem dX3_late_12 : decode cX3_late 12 = .ok (.ifCond .lt 11, 3) := by decide +kernel
theorem dX3_late_15 : decode cX3_late 15 = .ok (.iload_n 1, 1) := by decide +kernel
theorem dX3_late_16 : decode cX3_late 16 = .ok (.aload_n 0, 1) := by decide +kernel
theorem dX3_late_17 : decode cX3_late 17 = .ok (.getfield 57, 3) := by decide +kernel
theorem dX3_late_20 : decode cX3_late 20 = .ok (.if_icmp .le 13, 3) := by decide +kernel
theorem dX3_late_23 : decode cX3_late 23 = .ok (.new 41, 3) := by decide +kernel
theorem dX3_late_26 : decode cX3_late 26 = .ok (.dup, 1) := by decide +kernel
theorem dX3_late_27 : decode cX3_late 27 = .ok (.ldc 112, 2) := by decide +kernel
theorem dX3_late_29 : decode cX3_late 29 = .ok (.invokespecial 45, 3) := by decide +kernel
theorem dX3_late_32 : decode cX3_late 32 = .ok (.athrow, 1) := by decide +kernel
end
section
theorem dX3_late_33 : decode cX3_late 33 = .ok (.aload_n 0, 1) := by decide +kernel
theorem dX3_late_34 : decode cX3_late 34 = .ok (.iconst 1, 1) := by decide +kernel
theorem dX3_late_35 : decode cX3_late 35 = .ok (.invokevirtual 76, 3) := by decide +kernel
theorem dX3_late_38 : decode cX3_late 38 = .ok (.aload_n 0, 1) := by decide +kernel
theorem dX3_late_39 : decode cX3_late 39 = .ok (.getfield 32, 3) := by decide +kernel
theorem dX3_late_42 : decode cX3_late 42 = .ok (.iload_n 1, 1) := by decide +kernel
theorem dX3_late_43 : decode cX3_late 43 = .ok (.invokevirtual 114, 3) := by decide +kernel
theorem dX3_late_46 : decode cX3_late 46 = .ok (.istore 5, 2) := by decide +kernel
theorem dX3_late_48 : decode cX3_late 48 = .ok (.iload 5, 2) := by decide +kernel
theorem dX3_late_50 : decode cX3_late 50 = .ok (.iconst (-1), 1) := by decide +kernel
theorem dX3_late_51 : decode cX3_late 51 = .ok (.if_icmp .ne 13, 3) := by decide +kernel
theorem dX3_late_54 : decode cX3_late 54 = .ok (.new 52, 3) := by decide +kernel
theorem dX3_late_57 : decode cX3_late 57 = .ok (.dup, 1) := by decide +kernel
theorem dX3_late_58 : decode cX3_late 58 = .ok (.ldc 117, 2) := by decide +kernel
theorem dX3_late_60 : decode cX3_late 60 = .ok (.invokespecial 56, 3) := by decide +kernel
theorem dX3_late_63 : decode cX3_late 63 = .ok (.athrow, 1) := by decide +kernel
theorem dX3_late_64 : decode cX3_late 64 = .ok (.aload_n 0, 1) := by decide +kernel
theorem dX3_late_65 : decode cX3_late 65 = .ok (.getfield 23, 3) := by decide +kernel
theorem dX3_late_68 : decode cX3_late 68 = .ok (.iload_n 1, 1) := by decide +kernel
theorem dX3_late_69 : decode cX3_late 69 = .ok (.iload_n 2, 1) := by decide +kernel
theorem dX3_late_70 : decode cX3_late 70 = .ok (.iload_n 3, 1) := by decide +kernel
theorem dX3_late_71 : decode cX3_late 71 = .ok (.fload 4, 2) := by decide +kernel
theorem dX3_late_73 : decode cX3_late 73 = .ok (.invokevirtual 79, 3) := by decide +kernel
theorem dX3_late_76 : decode cX3_late 76 = .ok (.iload_n 1, 1) := by decide +kernel
theorem dX3_late_77 : decode cX3_late 77 = .ok (.aload_n 0, 1) := by decide +kernel
theorem dX3_late_78 : decode cX3_late 78 = .ok (.getfield 57, 3) := by decide +kernel
theorem dX3_late_81 : decode cX3_late 81 = .ok (.if_icmp .ge 12, 3) := by decide +kernel
theorem dX3_late_84 : decode cX3_late 84 = .ok (.aload_n 0, 1) := by decide +kernel
theorem dX3_late_85 : decode cX3_late 85 = .ok (.iload 5, 2) := by decide +kernel
theorem dX3_late_87 : decode cX3_late 87 = .ok (.invokevirtual 119, 3) := by decide +kernel
theorem dX3_late_90 : decode cX3_late 90 = .ok (.goto 4, 3) := by decide +kernel
theorem dX3_late_93 : decode cX3_late 93 = .ok (.iconst 0, 1) := by decide +kernel
theorem dX3_late_94 : decode cX3_late 94 = .ok (.ireturn, 1) := by decide +kernel
set_option maxRecDepth 20000 in
theorem ggX3_cell_X3_needCell : GoodIn wsX3_cell wsX3_needCell := goodIn_ca (goodIn_r _ [6, 7, 8, 1, 9, 10, 11, 12, 13, 14, 15] (by decide +kernel) (by decide +kernel)) (goodIn_sub (fun _ h => List.mem_cons_of_mem _ (List.mem_append_right _ h)) (by decide +kernel))
set_option maxRecDepth 20000 in
theorem gX3_cell_X3_needCell : GoodIn wsX3_cell (wsV RX3 36 RX3 yX3_needCell wsX3_needCell) := goodIn_app (goodIn_of _ (by decide +kernel)) ggX3_cell_X3_needCell
theorem dX3_cell_0 : decode cX3_cell 0 = .ok (.aload_n 0, 1) := by decide +kernel
theorem dX3_cell_1 : decode cX3_cell 1 = .ok (.iload_n 1, 1) := by decide +kernel
theorem dX3_cell_2 : decode cX3_cell 2 = .ok (.invokevirtual 36, 3) := by decide +kernel
theorem dX3_cell_5 : decode cX3_cell 5 = .ok (.aload_n 0, 1) := by decide +kernel
theorem dX3_cell_6 : decode cX3_cell 6 = .ok (.getfield 9, 3) := by decide +kernel
theorem dX3_cell_9 : decode cX3_cell 9 = .ok (.iload_n 1, 1) := by decide +kernel
theorem dX3_cell_10 : decode cX3_cell 10 = .ok (.faload, 1) := by decide +kernel
theorem dX3_cell_11 : decode cX3_cell 11 = .ok (.freturn, 1) := by decide +kernel
set_option maxRecDepth 20000 in
theorem ggX3_kept_X3_needCell : GoodIn wsX3_kept wsX3_needCell := goodIn_ca (goodIn_r _ [6, 7, 8, 9, 37, 38, 39, 40, 41, 42, 43] (by decide +kernel) (by decide +kernel)) (goodIn_sub (fun _ h => List.mem_cons_of_mem _ (List.mem_append_right _ h)) (by decide +kernel))
set_option maxRecDepth 20000 in
theorem gX3_kept_X3_needCell : GoodIn wsX3_kept (wsV RX3 36 RX3 yX3_needCell wsX3_needCell) := goodIn_app (goodIn_of _ (by decide +kernel)) ggX3_kept_X3_needCell
set_option maxRecDepth 20000 in
theorem ggX3_kept_X3_neededSnapshot : GoodIn wsX3_kept wsX3_neededSnapshot := goodIn_ca (goodIn_r _ [13, 7, 8, 1, 14, 15, 16, 17, 18, 19, 20, 21, 22, 23, 24, 25, 26, 27, 28, 29, 30, 31, 32, 37, 38, 39, 40, 41, 42, 43, 44, 45, 46, 47] (by decide +kernel) (by decide +kernel)) (goodIn_sub (fun _ h => List.mem_cons_of_mem _ (List.mem_append_right _ h)) (by decide +kernel))
set_option maxRecDepth 20000 in
theorem gX3_kept_X3_neededSnapshot : GoodIn wsX3_kept (wsV RX3 101 RX3 yX3_neededSnapshot wsX3_neededSnapshot) := goodIn_app (goodIn_of _ (by decide +kernel)) ggX3_kept_X3_neededSnapshot
set_option maxRecDepth 20000 in
theorem ggX3_kept_X2_row : GoodIn wsX3_kept wsX2_row := goodIn_r _ [35, 36, 28, 29, 30, 15, 31, 32, 44, 45, 46, 47] (by decide +kernel) (by decide +kernel)
set_option maxRecDepth 20000 in
theorem gX3_kept_X2_row_n122 : GoodIn wsX3_kept (wsX2_row) := ggX3_kept_X2_row
theorem dX3_kept_0 : decode cX3_kept 0 = .ok (.aload_n 0, 1) := by decide +kernel
theorem dX3_kept_1 : decode cX3_kept 1 = .ok (.iload_n 2, 1) := by decide +kernel
theorem dX3_kept_2 : decode cX3_kept 2 = .ok (.invokevirtual 36, 3) := by decide +kernel
theorem dX3_kept_5 : decode cX3_kept 5 = .ok (.aload_n 0, 1) := by decide +kernel
theorem dX3_kept_6 : decode cX3_kept 6 = .ok (.getfield 32, 3) := by decide +kernel
theorem dX3_kept_9 : decode cX3_kept 9 = .ok (.aload_n 0, 1) := by decide +kernel
theorem dX3_kept_10 : decode cX3_kept 10 = .ok (.iload_n 1, 1) := by decide +kernel
theorem dX3_kept_11 : decode cX3_kept 11 = .ok (.invokevirtual 101, 3) := by decide +kernel
theorem dX3_kept_14 : decode cX3_kept 14 = .ok (.invokevirtual 122, 3) := by decide +kernel
theorem dX3_kept_17 : decode cX3_kept 17 = .ok (.iload_n 2, 1) := by decide +kernel
theorem dX3_kept_18 : decode cX3_kept 18 = .ok (.faload, 1) := by decide +kernel
theorem dX3_kept_19 : decode cX3_kept 19 = .ok (.freturn, 1) := by decide +kernel
set_option maxRecDepth 20000 in
theorem ggX3_differs_X3_neededSnapshot : GoodIn wsX3_differs wsX3_neededSnapshot := goodIn_ca (goodIn_r _ [7, 8, 9, 1, 10, 11, 12, 13, 14, 15, 16, 17, 18, 19, 20, 21, 22, 23, 24, 25, 26, 27, 28, 33, 34, 35, 36, 37, 38, 39, 40, 41, 42, 43] (by decide +kernel) (by decide +kernel)) (goodIn_sub (fun _ h => List.mem_cons_of_mem _ (List.mem_append_right _ h)) (by decide +kernel))
set_option maxRecDepth 20000 in
theorem gX3_differs_X3_neededSnapshot : GoodIn wsX3_differs (wsV RX3 101 RX3 yX3_neededSnapshot wsX3_neededSnapshot) := goodIn_app (goodIn_of _ (by decide +kernel)) ggX3_differs_X3_neededSnapshot
set_option maxRecDepth 20000 in
theorem ggX3_differs_X2_row : GoodIn wsX3_differs wsX2_row := goodIn_r _ [31, 32, 24, 25, 26, 11, 27, 28, 40, 41, 42, 43] (by decide +kernel) (by decide +kernel)
set_option maxRecDepth 20000 in
theorem gX3_differs_X2_row_n122 : GoodIn wsX3_differs (wsX2_row) := ggX3_differs_X2_row
theorem dX3_differs_0 : decode cX3_differs 0 = .ok (.aload_n 0, 1) := by decide +kernel
theorem dX3_differs_1 : decode cX3_differs 1 = .ok (.getfield 32, 3) := by decide +kernel
theorem dX3_differs_4 : decode cX3_differs 4 = .ok (.aload_n 0, 1) := by decide +kernel
theorem dX3_differs_5 : decode cX3_differs 5 = .ok (.iload_n 1, 1) := by decide +kernel
theorem dX3_differs_6 : decode cX3_differs 6 = .ok (.invokevirtual 101, 3) := by decide +kernel
theorem dX3_differs_9 : decode cX3_differs 9 = .ok (.invokevirtual 122, 3) := by decide +kernel
theorem dX3_differs_12 : decode cX3_differs 12 = .ok (.astore_n 2, 1) := by decide +kernel
theorem dX3_differs_13 : decode cX3_differs 13 = .ok (.iconst 0, 1) := by decide +kernel
theorem dX3_differs_14 : decode cX3_differs 14 = .ok (.istore_n 3, 1) := by decide +kernel
theorem dX3_differs_15 : decode cX3_differs 15 = .ok (.iload_n 3, 1) := by decide +kernel
theorem dX3_differs_16 : decode cX3_differs 16 = .ok (.aload_n 0, 1) := by decide +kernel
theorem dX3_differs_17 : decode cX3_differs 17 = .ok (.getfield 9, 3) := by decide +kernel
theorem dX3_differs_20 : decode cX3_differs 20 = .ok (.arraylength, 1) := by decide +kernel
theorem dX3_differs_21 : decode cX3_differs 21 = .ok (.if_icmp .ge 24, 3) := by decide +kernel
theorem dX3_differs_24 : decode cX3_differs 24 = .ok (.aload_n 0, 1) := by decide +kernel
theorem dX3_differs_25 : decode cX3_differs 25 = .ok (.getfield 9, 3) := by decide +kernel
theorem dX3_differs_28 : decode cX3_differs 28 = .ok (.iload_n 3, 1) := by decide +kernel
theorem dX3_differs_29 : decode cX3_differs 29 = .ok (.faload, 1) := by decide +kernel
theorem dX3_differs_30 : decode cX3_differs 30 = .ok (.aload_n 2, 1) := by decide +kernel
theorem dX3_differs_31 : decode cX3_differs 31 = .ok (.iload_n 3, 1) := by decide +kernel
theorem dX3_differs_32 : decode cX3_differs 32 = .ok (.faload, 1) := by decide +kernel
theorem dX3_differs_33 : decode cX3_differs 33 = .ok (.fcmp .l, 1) := by decide +kernel
theorem dX3_differs_34 : decode cX3_differs 34 = .ok (.ifCond .eq 5, 3) := by decide +kernel
theorem dX3_differs_37 : decode cX3_differs 37 = .ok (.iload_n 3, 1) := by decide +kernel
theorem dX3_differs_38 : decode cX3_differs 38 = .ok (.ireturn, 1) := by decide +kernel
theorem dX3_differs_39 : decode cX3_differs 39 = .ok (.iinc 3 1, 3) := by decide +kernel
theorem dX3_differs_42 : decode cX3_differs 42 = .ok (.goto (-27), 3) := by decide +kernel
theorem dX3_differs_45 : decode cX3_differs 45 = .ok (.iconst (-1), 1) := by decide +kernel
theorem dX3_differs_46 : decode cX3_differs 46 = .ok (.ireturn, 1) := by decide +kernel
set_option maxRecDepth 20000 in
theorem ggX3_snapshot_X2_stepOf : GoodIn wsX3_snapshot wsX2_stepOf := goodIn_r _ [7, 8, 9, 10, 11, 5, 12, 13, 21, 22, 23, 24] (by decide +kernel) (by decide +kernel)
set_option maxRecDepth 20000 in
theorem gX3_snapshot_X2_stepOf_n131 : GoodIn wsX3_snapshot (wsX2_stepOf) := ggX3_snapshot_X2_stepOf
theorem dX3_snapshot_0 : decode cX3_snapshot 0 = .ok (.iload_n 1, 1) := by decide +kernel
theorem dX3_snapshot_1 : decode cX3_snapshot 1 = .ok (.ifCond .lt 14, 3) := by decide +kernel
theorem dX3_snapshot_4 : decode cX3_snapshot 4 = .ok (.iload_n 1, 1) := by decide +kernel
theorem dX3_snapshot_5 : decode cX3_snapshot 5 = .ok (.aload_n 0, 1) := by decide +kernel
theorem dX3_snapshot_6 : decode cX3_snapshot 6 = .ok (.getfield 32, 3) := by decide +kernel
theorem dX3_snapshot_9 : decode cX3_snapshot 9 = .ok (.getfield 100, 3) := by decide +kernel
theorem dX3_snapshot_12 : decode cX3_snapshot 12 = .ok (.if_icmp .lt 13, 3) := by decide +kernel
theorem dX3_snapshot_15 : decode cX3_snapshot 15 = .ok (.new 126, 3) := by decide +kernel
theorem dX3_snapshot_18 : decode cX3_snapshot 18 = .ok (.dup, 1) := by decide +kernel
theorem dX3_snapshot_19 : decode cX3_snapshot 19 = .ok (.ldc 128, 2) := by decide +kernel
theorem dX3_snapshot_21 : decode cX3_snapshot 21 = .ok (.invokespecial 130, 3) := by decide +kernel
theorem dX3_snapshot_24 : decode cX3_snapshot 24 = .ok (.athrow, 1) := by decide +kernel
theorem dX3_snapshot_25 : decode cX3_snapshot 25 = .ok (.aload_n 0, 1) := by decide +kernel
theorem dX3_snapshot_26 : decode cX3_snapshot 26 = .ok (.getfield 32, 3) := by decide +kernel
theorem dX3_snapshot_29 : decode cX3_snapshot 29 = .ok (.iload_n 1, 1) := by decide +kernel
theorem dX3_snapshot_30 : decode cX3_snapshot 30 = .ok (.invokevirtual 131, 3) := by decide +kernel
theorem dX3_snapshot_33 : decode cX3_snapshot 33 = .ok (.ireturn, 1) := by decide +kernel
set_option maxRecDepth 20000 in
theorem ggX3_record_X3_neededPlace : GoodIn wsX3_record wsX3_neededPlace := goodIn_ca (goodIn_r _ [8, 1, 2, 3, 9, 10, 11, 12, 13, 14, 15, 16, 17, 18, 19, 20, 21, 22, 23, 24, 25, 26, 27, 28, 29, 30] (by decide +kernel) (by decide +kernel)) (goodIn_sub (fun _ h => List.mem_cons_of_mem _ (List.mem_append_right _ h)) (by decide +kernel))
set_option maxRecDepth 20000 in
theorem gX3_record_X3_neededPlace : GoodIn wsX3_record (wsV RX3 134 RX3 yX3_neededPlace wsX3_neededPlace) := goodIn_app (goodIn_of _ (by decide +kernel)) ggX3_record_X3_neededPlace
theorem dX3_record_0 : decode cX3_record 0 = .ok (.aload_n 0, 1) := by decide +kernel
theorem dX3_record_1 : decode cX3_record 1 = .ok (.iload_n 1, 1) := by decide +kernel
theorem dX3_record_2 : decode cX3_record 2 = .ok (.iload_n 2, 1) := by decide +kernel
theorem dX3_record_3 : decode cX3_record 3 = .ok (.invokevirtual 134, 3) := by decide +kernel
theorem dX3_record_6 : decode cX3_record 6 = .ok (.istore 4, 2) := by decide +kernel
theorem dX3_record_8 : decode cX3_record 8 = .ok (.iload_n 3, 1) := by decide +kernel
theorem dX3_record_9 : decode cX3_record 9 = .ok (.lookupswitch 49 #[(0, 27), (1, 38)], 27) := by decide +kernel
theorem dX3_record_36 : decode cX3_record 36 = .ok (.aload_n 0, 1) := by decide +kernel
theorem dX3_record_37 : decode cX3_record 37 = .ok (.getfield 23, 3) := by decide +kernel
theorem dX3_record_40 : decode cX3_record 40 = .ok (.getfield 138, 3) := by decide +kernel
theorem dX3_record_43 : decode cX3_record 43 = .ok (.iload 4, 2) := by decide +kernel
theorem dX3_record_45 : decode cX3_record 45 = .ok (.iaload, 1) := by decide +kernel
theorem dX3_record_46 : decode cX3_record 46 = .ok (.ireturn, 1) := by decide +kernel
theorem dX3_record_47 : decode cX3_record 47 = .ok (.aload_n 0, 1) := by decide +kernel
theorem dX3_record_48 : decode cX3_record 48 = .ok (.getfield 23, 3) := by decide +kernel
theorem dX3_record_51 : decode cX3_record 51 = .ok (.getfield 142, 3) := by decide +kernel
theorem dX3_record_54 : decode cX3_record 54 = .ok (.iload 4, 2) := by decide +kernel
theorem dX3_record_56 : decode cX3_record 56 = .ok (.iaload, 1) := by decide +kernel
theorem dX3_record_57 : decode cX3_record 57 = .ok (.ireturn, 1) := by decide +kernel
theorem dX3_record_58 : decode cX3_record 58 = .ok (.new 126, 3) := by decide +kernel
theorem dX3_record_61 : decode cX3_record 61 = .ok (.dup, 1) := by decide +kernel
theorem dX3_record_62 : decode cX3_record 62 = .ok (.ldc 145, 2) := by decide +kernel
theorem dX3_record_64 : decode cX3_record 64 = .ok (.invokespecial 130, 3) := by decide +kernel
theorem dX3_record_67 : decode cX3_record 67 = .ok (.athrow, 1) := by decide +kernel
set_option maxRecDepth 20000 in
theorem ggX3_recorded_X3_neededPlace : GoodIn wsX3_recorded wsX3_neededPlace := goodIn_ca (goodIn_r _ [6, 7, 8, 1, 9, 10, 11, 12, 13, 14, 15, 16, 17, 18, 19, 20, 21, 22, 23, 24, 25, 26, 27, 28, 29, 30] (by decide +kernel) (by decide +kernel)) (goodIn_sub (fun _ h => List.mem_cons_of_mem _ (List.mem_append_right _ h)) (by decide +kernel))
set_option maxRecDepth 20000 in
theorem gX3_recorded_X3_neededPlace : GoodIn wsX3_recorded (wsV RX3 134 RX3 yX3_neededPlace wsX3_neededPlace) := goodIn_app (goodIn_of _ (by decide +kernel)) ggX3_recorded_X3_neededPlace
theorem dX3_recorded_0 : decode cX3_recorded 0 = .ok (.aload_n 0, 1) := by decide +kernel
theorem dX3_recorded_1 : decode cX3_recorded 1 = .ok (.getfield 23, 3) := by decide +kernel
theorem dX3_recorded_4 : decode cX3_recorded 4 = .ok (.getfield 147, 3) := by decide +kernel
theorem dX3_recorded_7 : decode cX3_recorded 7 = .ok (.aload_n 0, 1) := by decide +kernel
theorem dX3_recorded_8 : decode cX3_recorded 8 = .ok (.iload_n 1, 1) := by decide +kernel
theorem dX3_recorded_9 : decode cX3_recorded 9 = .ok (.iload_n 2, 1) := by decide +kernel
theorem dX3_recorded_10 : decode cX3_recorded 10 = .ok (.invokevirtual 134, 3) := by decide +kernel
theorem dX3_recorded_13 : decode cX3_recorded 13 = .ok (.faload, 1) := by decide +kernel
theorem dX3_recorded_14 : decode cX3_recorded 14 = .ok (.freturn, 1) := by decide +kernel
set_option maxRecDepth 20000 in
theorem ggX3_count_X1_sizeOf : GoodIn wsX3_count wsX1_sizeOf := goodIn_r _ [12, 13, 14, 15, 10, 16, 17, 18, 35, 36, 37, 38, 39] (by decide +kernel) (by decide +kernel)
set_option maxRecDepth 20000 in
theorem gX3_count_X1_sizeOf_n82 : GoodIn wsX3_count (wsX1_sizeOf) := ggX3_count_X1_sizeOf
set_option maxRecDepth 20000 in
theorem ggX3_count_X3_cellsNotZero : GoodIn wsX3_count wsX3_cellsNotZero := goodIn_r _ [23, 4, 24, 25, 26, 27, 28, 29, 30] (by decide +kernel) (by decide +kernel)
set_option maxRecDepth 20000 in
theorem gX3_count_X3_cellsNotZero : GoodIn wsX3_count (wsV RX3 153 RX3 yX3_cellsNotZero wsX3_cellsNotZero) := goodIn_app (goodIn_of _ (by decide +kernel)) ggX3_count_X3_cellsNotZero
theorem dX3_count_0 : decode cX3_count 0 = .ok (.iload_n 1, 1) := by decide +kernel
theorem dX3_count_1 : decode cX3_count 1 = .ok (.tableswitch 104 0 7 #[47, 52, 58, 66, 74, 86, 94, 99], 47) := by decide +kernel
theorem dX3_count_48 : decode cX3_count 48 = .ok (.aload_n 0, 1) := by decide +kernel
theorem dX3_count_49 : decode cX3_count 49 = .ok (.getfield 57, 3) := by decide +kernel
theorem dX3_count_52 : decode cX3_count 52 = .ok (.ireturn, 1) := by decide +kernel
theorem dX3_count_53 : decode cX3_count 53 = .ok (.aload_n 0, 1) := by decide +kernel
theorem dX3_count_54 : decode cX3_count 54 = .ok (.getfield 9, 3) := by decide +kernel
theorem dX3_count_57 : decode cX3_count 57 = .ok (.arraylength, 1) := by decide +kernel
theorem dX3_count_58 : decode cX3_count 58 = .ok (.ireturn, 1) := by decide +kernel
theorem dX3_count_59 : decode cX3_count 59 = .ok (.aload_n 0, 1) := by decide +kernel
theorem dX3_count_60 : decode cX3_count 60 = .ok (.getfield 32, 3) := by decide +kernel
theorem dX3_count_63 : decode cX3_count 63 = .ok (.getfield 100, 3) := by decide +kernel
theorem dX3_count_66 : decode cX3_count 66 = .ok (.ireturn, 1) := by decide +kernel
theorem dX3_count_67 : decode cX3_count 67 = .ok (.aload_n 0, 1) := by decide +kernel
theorem dX3_count_68 : decode cX3_count 68 = .ok (.getfield 23, 3) := by decide +kernel
theorem dX3_count_71 : decode cX3_count 71 = .ok (.getfield 60, 3) := by decide +kernel
theorem dX3_count_74 : decode cX3_count 74 = .ok (.ireturn, 1) := by decide +kernel
theorem dX3_count_75 : decode cX3_count 75 = .ok (.aload_n 0, 1) := by decide +kernel
theorem dX3_count_76 : decode cX3_count 76 = .ok (.getfield 23, 3) := by decide +kernel
theorem dX3_count_79 : decode cX3_count 79 = .ok (.aload_n 0, 1) := by decide +kernel
theorem dX3_count_80 : decode cX3_count 80 = .ok (.getfield 57, 3) := by decide +kernel
theorem dX3_count_83 : decode cX3_count 83 = .ok (.invokevirtual 82, 3) := by decide +kernel
theorem dX3_count_86 : decode cX3_count 86 = .ok (.ireturn, 1) := by decide +kernel
theorem dX3_count_87 : decode cX3_count 87 = .ok (.aload_n 0, 1) := by decide +kernel
theorem dX3_count_88 : decode cX3_count 88 = .ok (.getfield 16, 3) := by decide +kernel
theorem dX3_count_91 : decode cX3_count 91 = .ok (.getfield 48, 3) := by decide +kernel
theorem dX3_count_94 : decode cX3_count 94 = .ok (.ireturn, 1) := by decide +kernel
theorem dX3_count_95 : decode cX3_count 95 = .ok (.aload_n 0, 1) := by decide +kernel
theorem dX3_count_96 : decode cX3_count 96 = .ok (.getfield 150, 3) := by decide +kernel
theorem dX3_count_99 : decode cX3_count 99 = .ok (.ireturn, 1) := by decide +kernel
theorem dX3_count_100 : decode cX3_count 100 = .ok (.aload_n 0, 1) := by decide +kernel
theorem dX3_count_101 : decode cX3_count 101 = .ok (.invokevirtual 153, 3) := by decide +kernel
theorem dX3_count_104 : decode cX3_count 104 = .ok (.ireturn, 1) := by decide +kernel
theorem dX3_count_105 : decode cX3_count 105 = .ok (.new 126, 3) := by decide +kernel
theorem dX3_count_108 : decode cX3_count 108 = .ok (.dup, 1) := by decide +kernel
theorem dX3_count_109 : decode cX3_count 109 = .ok (.ldc 157, 2) := by decide +kernel
theorem dX3_count_111 : decode cX3_count 111 = .ok (.invokespecial 130, 3) := by decide +kernel
theorem dX3_count_114 : decode cX3_count 114 = .ok (.athrow, 1) := by decide +kernel
theorem dX3_sum_0 : decode cX3_sum 0 = .ok (.fconst 0, 1) := by decide +kernel
theorem dX3_sum_1 : decode cX3_sum 1 = .ok (.fstore_n 1, 1) := by decide +kernel
theorem dX3_sum_2 : decode cX3_sum 2 = .ok (.iconst 0, 1) := by decide +kernel
theorem dX3_sum_3 : decode cX3_sum 3 = .ok (.istore_n 2, 1) := by decide +kernel
theorem dX3_sum_4 : decode cX3_sum 4 = .ok (.iload_n 2, 1) := by decide +kernel
theorem dX3_sum_5 : decode cX3_sum 5 = .ok (.aload_n 0, 1) := by decide +kernel
theorem dX3_sum_6 : decode cX3_sum 6 = .ok (.getfield 9, 3) := by decide +kernel
theorem dX3_sum_9 : decode cX3_sum 9 = .ok (.arraylength, 1) := by decide +kernel
theorem dX3_sum_10 : decode cX3_sum 10 = .ok (.if_icmp .ge 18, 3) := by decide +kernel
theorem dX3_sum_13 : decode cX3_sum 13 = .ok (.fload_n 1, 1) := by decide +kernel
theorem dX3_sum_14 : decode cX3_sum 14 = .ok (.aload_n 0, 1) := by decide +kernel
theorem dX3_sum_15 : decode cX3_sum 15 = .ok (.getfield 9, 3) := by decide +kernel
theorem dX3_sum_18 : decode cX3_sum 18 = .ok (.iload_n 2, 1) := by decide +kernel
theorem dX3_sum_19 : decode cX3_sum 19 = .ok (.faload, 1) := by decide +kernel
theorem dX3_sum_20 : decode cX3_sum 20 = .ok (.fadd, 1) := by decide +kernel
theorem dX3_sum_21 : decode cX3_sum 21 = .ok (.fstore_n 1, 1) := by decide +kernel
theorem dX3_sum_22 : decode cX3_sum 22 = .ok (.iinc 2 1, 3) := by decide +kernel
theorem dX3_sum_25 : decode cX3_sum 25 = .ok (.goto (-21), 3) := by decide +kernel
theorem dX3_sum_28 : decode cX3_sum 28 = .ok (.fload_n 1, 1) := by decide +kernel
theorem dX3_sum_29 : decode cX3_sum 29 = .ok (.freturn, 1) := by decide +kernel
theorem dX3_cellsNotZero_0 : decode cX3_cellsNotZero 0 = .ok (.iconst 0, 1) := by decide +kernel
theorem dX3_cellsNotZero_1 : decode cX3_cellsNotZero 1 = .ok (.istore_n 1, 1) := by decide +kernel
theorem dX3_cellsNotZero_2 : decode cX3_cellsNotZero 2 = .ok (.iconst 0, 1) := by decide +kernel
theorem dX3_cellsNotZero_3 : decode cX3_cellsNotZero 3 = .ok (.istore_n 2, 1) := by decide +kernel
theorem dX3_cellsNotZero_4 : decode cX3_cellsNotZero 4 = .ok (.iload_n 2, 1) := by decide +kernel
theorem dX3_cellsNotZero_5 : decode cX3_cellsNotZero 5 = .ok (.aload_n 0, 1) := by decide +kernel
theorem dX3_cellsNotZero_6 : decode cX3_cellsNotZero 6 = .ok (.getfield 9, 3) := by decide +kernel
theorem dX3_cellsNotZero_9 : decode cX3_cellsNotZero 9 = .ok (.arraylength, 1) := by decide +kernel
theorem dX3_cellsNotZero_10 : decode cX3_cellsNotZero 10 = .ok (.if_icmp .ge 23, 3) := by decide +kernel
theorem dX3_cellsNotZero_13 : decode cX3_cellsNotZero 13 = .ok (.aload_n 0, 1) := by decide +kernel
theorem dX3_cellsNotZero_14 : decode cX3_cellsNotZero 14 = .ok (.getfield 9, 3) := by decide +kernel
theorem dX3_cellsNotZero_17 : decode cX3_cellsNotZero 17 = .ok (.iload_n 2, 1) := by decide +kernel
theorem dX3_cellsNotZero_18 : decode cX3_cellsNotZero 18 = .ok (.faload, 1) := by decide +kernel
theorem dX3_cellsNotZero_19 : decode cX3_cellsNotZero 19 = .ok (.fconst 0, 1) := by decide +kernel
theorem dX3_cellsNotZero_20 : decode cX3_cellsNotZero 20 = .ok (.fcmp .l, 1) := by decide +kernel
theorem dX3_cellsNotZero_21 : decode cX3_cellsNotZero 21 = .ok (.ifCond .eq 6, 3) := by decide +kernel
theorem dX3_cellsNotZero_24 : decode cX3_cellsNotZero 24 = .ok (.iinc 1 1, 3) := by decide +kernel
theorem dX3_cellsNotZero_27 : decode cX3_cellsNotZero 27 = .ok (.iinc 2 1, 3) := by decide +kernel
theorem dX3_cellsNotZero_30 : decode cX3_cellsNotZero 30 = .ok (.goto (-26), 3) := by decide +kernel
theorem dX3_cellsNotZero_33 : decode cX3_cellsNotZero 33 = .ok (.iload_n 1, 1) := by decide +kernel
theorem dX3_cellsNotZero_34 : decode cX3_cellsNotZero 34 = .ok (.ireturn, 1) := by decide +kernel
set_option maxRecDepth 20000 in
theorem ggX3_doSteps_X1_putIn : GoodIn wsX3_doSteps wsX1_putIn := goodIn_r _ [10, 11, 12, 13, 14, 15, 16, 8, 17, 18, 19, 20, 21, 22, 23, 24, 25, 26, 27, 76, 77, 78, 79, 80] (by decide +kernel) (by decide +kernel)
set_option maxRecDepth 20000 in
theorem gX3_doSteps_X1_putIn_n159 : GoodIn wsX3_doSteps (wsX1_putIn) := ggX3_doSteps_X1_putIn
set_option maxRecDepth 20000 in
theorem ggX3_doSteps_X0_flow : GoodIn wsX3_doSteps wsX0_flow := goodIn_r _ [31, 32, 33, 34, 35, 23, 24, 25, 26, 27, 81, 82, 83, 84] (by decide +kernel) (by decide +kernel)
set_option maxRecDepth 20000 in
theorem gX3_doSteps_X0_flow_n163 : GoodIn wsX3_doSteps (wsX0_flow) := ggX3_doSteps_X0_flow
set_option maxRecDepth 20000 in
theorem ggX3_doSteps_X3_keepPresent : GoodIn wsX3_doSteps wsX3_keepPresent := goodIn_r _ [39, 40, 2, 3, 1, 41, 42, 43, 44, 45, 46, 47, 48, 49, 50, 51, 52, 53, 54, 55, 56, 57, 58, 59, 60, 61, 8, 62, 63, 18, 14, 15, 16, 17, 19, 64, 65, 66, 67, 68, 11, 12, 13, 69, 70, 71, 72, 73, 74, 75, 85, 86, 87, 88, 76, 77, 78, 79, 80] (by decide +kernel) (by decide +kernel)
set_option maxRecDepth 20000 in
theorem gX3_doSteps_X3_keepPresent : GoodIn wsX3_doSteps (wsV RX3 97 RX3 yX3_keepPresent wsX3_keepPresent) := goodIn_app (goodIn_of _ (by decide +kernel)) ggX3_doSteps_X3_keepPresent
theorem dX3_doSteps_0 : decode cX3_doSteps 0 = .ok (.iconst 0, 1) := by decide +kernel
theorem dX3_doSteps_1 : decode cX3_doSteps 1 = .ok (.istore_n 2, 1) := by decide +kernel
theorem dX3_doSteps_2 : decode cX3_doSteps 2 = .ok (.iload_n 2, 1) := by decide +kernel
theorem dX3_doSteps_3 : decode cX3_doSteps 3 = .ok (.iload_n 1, 1) := by decide +kernel
theorem dX3_doSteps_4 : decode cX3_doSteps 4 = .ok (.if_icmp .ge 78, 3) := by decide +kernel
theorem dX3_doSteps_7 : decode cX3_doSteps 7 = .ok (.aload_n 0, 1) := by decide +kernel
theorem dX3_doSteps_8 : decode cX3_doSteps 8 = .ok (.getfield 23, 3) := by decide +kernel
theorem dX3_doSteps_11 : decode cX3_doSteps 11 = .ok (.aload_n 0, 1) := by decide +kernel
theorem dX3_doSteps_12 : decode cX3_doSteps 12 = .ok (.getfield 57, 3) := by decide +kernel
theorem dX3_doSteps_15 : decode cX3_doSteps 15 = .ok (.aload_n 0, 1) := by decide +kernel
theorem dX3_doSteps_16 : decode cX3_doSteps 16 = .ok (.getfield 9, 3) := by decide +kernel
theorem dX3_doSteps_19 : decode cX3_doSteps 19 = .ok (.invokevirtual 159, 3) := by decide +kernel
theorem dX3_doSteps_22 : decode cX3_doSteps 22 = .ok (.aload_n 0, 1) := by decide +kernel
theorem dX3_doSteps_23 : decode cX3_doSteps 23 = .ok (.getfield 16, 3) := by decide +kernel
theorem dX3_doSteps_26 : decode cX3_doSteps 26 = .ok (.aload_n 0, 1) := by decide +kernel
theorem dX3_doSteps_27 : decode cX3_doSteps 27 = .ok (.getfield 9, 3) := by decide +kernel
theorem dX3_doSteps_30 : decode cX3_doSteps 30 = .ok (.invokevirtual 163, 3) := by decide +kernel
theorem dX3_doSteps_33 : decode cX3_doSteps 33 = .ok (.aload_n 0, 1) := by decide +kernel
theorem dX3_doSteps_34 : decode cX3_doSteps 34 = .ok (.dup, 1) := by decide +kernel
theorem dX3_doSteps_35 : decode cX3_doSteps 35 = .ok (.getfield 57, 3) := by decide +kernel
theorem dX3_doSteps_38 : decode cX3_doSteps 38 = .ok (.iconst 1, 1) := by decide +kernel
theorem dX3_doSteps_39 : decode cX3_doSteps 39 = .ok (.iadd, 1) := by decide +kernel
theorem dX3_doSteps_40 : decode cX3_doSteps 40 = .ok (.putfield 57, 3) := by decide +kernel
theorem dX3_doSteps_43 : decode cX3_doSteps 43 = .ok (.aload_n 0, 1) := by decide +kernel
theorem dX3_doSteps_44 : decode cX3_doSteps 44 = .ok (.dup, 1) := by decide +kernel
theorem dX3_doSteps_45 : decode cX3_doSteps 45 = .ok (.getfield 150, 3) := by decide +kernel
theorem dX3_doSteps_48 : decode cX3_doSteps 48 = .ok (.iconst 1, 1) := by decide +kernel
theorem dX3_doSteps_49 : decode cX3_doSteps 49 = .ok (.iadd, 1) := by decide +kernel
theorem dX3_doSteps_50 : decode cX3_doSteps 50 = .ok (.putfield 150, 3) := by decide +kernel
theorem dX3_doSteps_53 : decode cX3_doSteps 53 = .ok (.aload_n 0, 1) := by decide +kernel
theorem dX3_doSteps_54 : decode cX3_doSteps 54 = .ok (.getfield 69, 3) := by decide +kernel
theorem dX3_doSteps_57 : decode cX3_doSteps 57 = .ok (.ifCond .le 19, 3) := by decide +kernel
theorem dX3_doSteps_60 : decode cX3_doSteps 60 = .ok (.aload_n 0, 1) := by decide +kernel
theorem dX3_doSteps_61 : decode cX3_doSteps 61 = .ok (.getfield 57, 3) := by decide +kernel
theorem dX3_doSteps_64 : decode cX3_doSteps 64 = .ok (.aload_n 0, 1) := by decide +kernel
theorem dX3_doSteps_65 : decode cX3_doSteps 65 = .ok (.getfield 69, 3) := by decide +kernel
theorem dX3_doSteps_68 : decode cX3_doSteps 68 = .ok (.irem, 1) := by decide +kernel
theorem dX3_doSteps_69 : decode cX3_doSteps 69 = .ok (.ifCond .ne 7, 3) := by decide +kernel
theorem dX3_doSteps_72 : decode cX3_doSteps 72 = .ok (.aload_n 0, 1) := by decide +kernel
theorem dX3_doSteps_73 : decode cX3_doSteps 73 = .ok (.invokevirtual 97, 3) := by decide +kernel
theorem dX3_doSteps_76 : decode cX3_doSteps 76 = .ok (.iinc 2 1, 3) := by decide +kernel
theorem dX3_doSteps_79 : decode cX3_doSteps 79 = .ok (.goto (-77), 3) := by decide +kernel
theorem dX3_doSteps_82 : decode cX3_doSteps 82 = .ok (.return_, 1) := by decide +kernel
set_option maxRecDepth 20000 in
theorem ggX3_keepPresent_X2_take : GoodIn wsX3_keepPresent wsX2_take := goodIn_r _ [8, 9, 10, 11, 12, 13, 14, 15, 16, 17, 18, 19, 6, 20, 21, 22, 23, 24, 50, 51, 52, 53] (by decide +kernel) (by decide +kernel)
set_option maxRecDepth 20000 in
theorem gX3_keepPresent_X2_take_n167 : GoodIn wsX3_keepPresent (wsX2_take) := ggX3_keepPresent_X2_take
set_option maxRecDepth 20000 in
theorem ggX3_keepPresent_X2_stepOf : GoodIn wsX3_keepPresent wsX2_stepOf := goodIn_r _ [20, 11, 21, 22, 23, 6, 24, 10, 50, 51, 52, 53] (by decide +kernel) (by decide +kernel)
set_option maxRecDepth 20000 in
theorem gX3_keepPresent_X2_stepOf_n131 : GoodIn wsX3_keepPresent (wsX2_stepOf) := ggX3_keepPresent_X2_stepOf
set_option maxRecDepth 20000 in
theorem ggX3_keepPresent_X1_dropBelow : GoodIn wsX3_keepPresent wsX1_dropBelow := goodIn_r _ [28, 29, 30, 31, 32, 26, 33, 34, 35, 36, 37, 38, 39, 14, 15, 16, 40, 41, 42, 54, 55, 56, 57, 58] (by decide +kernel) (by decide +kernel)
set_option maxRecDepth 20000 in
theorem gX3_keepPresent_X1_dropBelow_n171 : GoodIn wsX3_keepPresent (wsX1_dropBelow) := ggX3_keepPresent_X1_dropBelow
theorem dX3_keepPresent_0 : decode cX3_keepPresent 0 = .ok (.aload_n 0, 1) := by decide +kernel
theorem dX3_keepPresent_1 : decode cX3_keepPresent 1 = .ok (.getfield 32, 3) := by decide +kernel
theorem dX3_keepPresent_4 : decode cX3_keepPresent 4 = .ok (.aload_n 0, 1) := by decide +kernel
theorem dX3_keepPresent_5 : decode cX3_keepPresent 5 = .ok (.getfield 57, 3) := by decide +kernel
theorem dX3_keepPresent_8 : decode cX3_keepPresent 8 = .ok (.aload_n 0, 1) := by decide +kernel
theorem dX3_keepPresent_9 : decode cX3_keepPresent 9 = .ok (.getfield 9, 3) := by decide +kernel
theorem dX3_keepPresent_12 : decode cX3_keepPresent 12 = .ok (.invokevirtual 167, 3) := by decide +kernel
theorem dX3_keepPresent_15 : decode cX3_keepPresent 15 = .ok (.istore_n 1, 1) := by decide +kernel
theorem dX3_keepPresent_16 : decode cX3_keepPresent 16 = .ok (.iload_n 1, 1) := by decide +kernel
theorem dX3_keepPresent_17 : decode cX3_keepPresent 17 = .ok (.ifCond .eq 18, 3) := by decide +kernel
theorem dX3_keepPresent_20 : decode cX3_keepPresent 20 = .ok (.aload_n 0, 1) := by decide +kernel
theorem dX3_keepPresent_21 : decode cX3_keepPresent 21 = .ok (.getfield 23, 3) := by decide +kernel
theorem dX3_keepPresent_24 : decode cX3_keepPresent 24 = .ok (.aload_n 0, 1) := by decide +kernel
theorem dX3_keepPresent_25 : decode cX3_keepPresent 25 = .ok (.getfield 32, 3) := by decide +kernel
theorem dX3_keepPresent_28 : decode cX3_keepPresent 28 = .ok (.iconst 0, 1) := by decide +kernel
theorem dX3_keepPresent_29 : decode cX3_keepPresent 29 = .ok (.invokevirtual 131, 3) := by decide +kernel
theorem dX3_keepPresent_32 : decode cX3_keepPresent 32 = .ok (.invokevirtual 171, 3) := by decide +kernel
theorem dX3_keepPresent_35 : decode cX3_keepPresent 35 = .ok (.return_, 1) := by decide +kernel
set_option maxRecDepth 20000 in
theorem ggX3_goBackTo_X2_row : GoodIn wsX3_goBackTo wsX2_row := goodIn_r _ [11, 12, 13, 14, 15, 9, 16, 17, 33, 34, 35, 36] (by decide +kernel) (by decide +kernel)
set_option maxRecDepth 20000 in
theorem gX3_goBackTo_X2_row_n122 : GoodIn wsX3_goBackTo (wsX2_row) := ggX3_goBackTo_X2_row
set_option maxRecDepth 20000 in
theorem ggX3_goBackTo_X2_stepOf : GoodIn wsX3_goBackTo wsX2_stepOf := goodIn_r _ [20, 21, 13, 14, 15, 9, 16, 17, 33, 34, 35, 36] (by decide +kernel) (by decide +kernel)
set_option maxRecDepth 20000 in
theorem gX3_goBackTo_X2_stepOf_n131 : GoodIn wsX3_goBackTo (wsX2_stepOf) := ggX3_goBackTo_X2_stepOf
set_option maxRecDepth 20000 in
theorem ggX3_goBackTo_X2_dropBehind : GoodIn wsX3_goBackTo wsX2_dropBehind := goodIn_r _ [24, 25, 33, 34, 35, 36] (by decide +kernel) (by decide +kernel)
set_option maxRecDepth 20000 in
theorem gX3_goBackTo_X2_dropBehind_n180 : GoodIn wsX3_goBackTo (wsX2_dropBehind) := ggX3_goBackTo_X2_dropBehind
theorem dX3_goBackTo_0 : decode cX3_goBackTo 0 = .ok (.aload_n 0, 1) := by decide +kernel
theorem dX3_goBackTo_1 : decode cX3_goBackTo 1 = .ok (.getfield 32, 3) := by decide +kernel
theorem dX3_goBackTo_4 : decode cX3_goBackTo 4 = .ok (.iload_n 1, 1) := by decide +kernel
theorem dX3_goBackTo_5 : decode cX3_goBackTo 5 = .ok (.invokevirtual 122, 3) := by decide +kernel
theorem dX3_goBackTo_8 : decode cX3_goBackTo 8 = .ok (.iconst 0, 1) := by decide +kernel
theorem dX3_goBackTo_9 : decode cX3_goBackTo 9 = .ok (.aload_n 0, 1) := by decide +kernel
theorem dX3_goBackTo_10 : decode cX3_goBackTo 10 = .ok (.getfield 9, 3) := by decide +kernel
theorem dX3_goBackTo_13 : decode cX3_goBackTo 13 = .ok (.iconst 0, 1) := by decide +kernel
theorem dX3_goBackTo_14 : decode cX3_goBackTo 14 = .ok (.aload_n 0, 1) := by decide +kernel
theorem dX3_goBackTo_15 : decode cX3_goBackTo 15 = .ok (.getfield 9, 3) := by decide +kernel
theorem dX3_goBackTo_18 : decode cX3_goBackTo 18 = .ok (.arraylength, 1) := by decide +kernel
theorem dX3_goBackTo_19 : decode cX3_goBackTo 19 = .ok (.invokestatic 174, 3) := by decide +kernel
theorem dX3_goBackTo_22 : decode cX3_goBackTo 22 = .ok (.aload_n 0, 1) := by decide +kernel
theorem dX3_goBackTo_23 : decode cX3_goBackTo 23 = .ok (.aload_n 0, 1) := by decide +kernel
theorem dX3_goBackTo_24 : decode cX3_goBackTo 24 = .ok (.getfield 32, 3) := by decide +kernel
theorem dX3_goBackTo_27 : decode cX3_goBackTo 27 = .ok (.iload_n 1, 1) := by decide +kernel
theorem dX3_goBackTo_28 : decode cX3_goBackTo 28 = .ok (.invokevirtual 131, 3) := by decide +kernel
theorem dX3_goBackTo_31 : decode cX3_goBackTo 31 = .ok (.putfield 57, 3) := by decide +kernel
theorem dX3_goBackTo_34 : decode cX3_goBackTo 34 = .ok (.aload_n 0, 1) := by decide +kernel
theorem dX3_goBackTo_35 : decode cX3_goBackTo 35 = .ok (.getfield 32, 3) := by decide +kernel
theorem dX3_goBackTo_38 : decode cX3_goBackTo 38 = .ok (.iload_n 1, 1) := by decide +kernel
theorem dX3_goBackTo_39 : decode cX3_goBackTo 39 = .ok (.invokevirtual 180, 3) := by decide +kernel
theorem dX3_goBackTo_42 : decode cX3_goBackTo 42 = .ok (.ireturn, 1) := by decide +kernel
set_option maxRecDepth 20000 in
theorem ggX3_stepAgainFrom_X3_goBackTo : GoodIn wsX3_stepAgainFrom wsX3_goBackTo := goodIn_r _ [6, 7, 8, 9, 10, 11, 12, 1, 13, 14, 15, 16, 17, 18, 19, 20, 21, 22, 23, 24, 25, 26, 27, 28, 29, 30, 84, 85, 86, 87, 88, 89, 90, 91, 92, 93, 94] (by decide +kernel) (by decide +kernel)
set_option maxRecDepth 20000 in
theorem gX3_stepAgainFrom_X3_goBackTo : GoodIn wsX3_stepAgainFrom (wsV RX3 104 RX3 yX3_goBackTo wsX3_goBackTo) := goodIn_app (goodIn_of _ (by decide +kernel)) ggX3_stepAgainFrom_X3_goBackTo
set_option maxRecDepth 20000 in
theorem ggX3_stepAgainFrom_X3_doSteps : GoodIn wsX3_stepAgainFrom wsX3_doSteps := goodIn_r _ [34, 35, 1, 8, 36, 37, 38, 39, 40, 41, 42, 43, 44, 45, 46, 47, 48, 49, 50, 51, 52, 53, 54, 55, 5, 56, 57, 58, 59, 60, 61, 62, 63, 64, 65, 66, 67, 68, 69, 70, 7, 71, 14, 72, 73, 30, 22, 26, 17, 74, 10, 11, 12, 75, 23, 24, 25, 18, 19, 20, 21, 76, 77, 78, 79, 80, 81, 82, 83, 84, 85, 86, 87, 88, 89, 90, 95, 96, 97, 98, 99, 100, 101, 102, 103, 91, 92, 93, 94] (by decide +kernel) (by decide +kernel)
set_option maxRecDepth 20000 in
theorem gX3_stepAgainFrom_X3_doSteps : GoodIn wsX3_stepAgainFrom (wsV RX3 94 RX3 yX3_doSteps wsX3_doSteps) := goodIn_app (goodIn_of _ (by decide +kernel)) ggX3_stepAgainFrom_X3_doSteps
theorem dX3_stepAgainFrom_0 : decode cX3_stepAgainFrom 0 = .ok (.aload_n 0, 1) := by decide +kernel
theorem dX3_stepAgainFrom_1 : decode cX3_stepAgainFrom 1 = .ok (.getfield 57, 3) := by decide +kernel
theorem dX3_stepAgainFrom_4 : decode cX3_stepAgainFrom 4 = .ok (.istore_n 2, 1) := by decide +kernel
theorem dX3_stepAgainFrom_5 : decode cX3_stepAgainFrom 5 = .ok (.aload_n 0, 1) := by decide +kernel
theorem dX3_stepAgainFrom_6 : decode cX3_stepAgainFrom 6 = .ok (.iload_n 1, 1) := by decide +kernel
theorem dX3_stepAgainFrom_7 : decode cX3_stepAgainFrom 7 = .ok (.invokevirtual 104, 3) := by decide +kernel
theorem dX3_stepAgainFrom_10 : decode cX3_stepAgainFrom 10 = .ok (.pop, 1) := by decide +kernel
theorem dX3_stepAgainFrom_11 : decode cX3_stepAgainFrom 11 = .ok (.iload_n 2, 1) := by decide +kernel
theorem dX3_stepAgainFrom_12 : decode cX3_stepAgainFrom 12 = .ok (.aload_n 0, 1) := by decide +kernel
theorem dX3_stepAgainFrom_13 : decode cX3_stepAgainFrom 13 = .ok (.getfield 57, 3) := by decide +kernel
theorem dX3_stepAgainFrom_16 : decode cX3_stepAgainFrom 16 = .ok (.isub, 1) := by decide +kernel
theorem dX3_stepAgainFrom_17 : decode cX3_stepAgainFrom 17 = .ok (.istore_n 3, 1) := by decide +kernel
theorem dX3_stepAgainFrom_18 : decode cX3_stepAgainFrom 18 = .ok (.aload_n 0, 1) := by decide +kernel
theorem dX3_stepAgainFrom_19 : decode cX3_stepAgainFrom 19 = .ok (.iload_n 3, 1) := by decide +kernel
theorem dX3_stepAgainFrom_20 : decode cX3_stepAgainFrom 20 = .ok (.invokevirtual 94, 3) := by decide +kernel
theorem dX3_stepAgainFrom_23 : decode cX3_stepAgainFrom 23 = .ok (.iload_n 3, 1) := by decide +kernel
theorem dX3_stepAgainFrom_24 : decode cX3_stepAgainFrom 24 = .ok (.ireturn, 1) := by decide +kernel
theorem dX3_needCell_0 : decode cX3_needCell 0 = .ok (.iload_n 1, 1) := by decide +kernel
theorem dX3_needCell_1 : decode cX3_needCell 1 = .ok (.ifCond .lt 12, 3) := by decide +kernel
theorem dX3_needCell_4 : decode cX3_needCell 4 = .ok (.iload_n 1, 1) := by decide +kernel
theorem dX3_needCell_5 : decode cX3_needCell 5 = .ok (.aload_n 0, 1) := by decide +kernel
theorem dX3_needCell_6 : decode cX3_needCell 6 = .ok (.getfield 9, 3) := by decide +kernel
theorem dX3_needCell_9 : decode cX3_needCell 9 = .ok (.arraylength, 1) := by decide +kernel
theorem dX3_needCell_10 : decode cX3_needCell 10 = .ok (.if_icmp .lt 13, 3) := by decide +kernel
theorem dX3_needCell_13 : decode cX3_needCell 13 = .ok (.new 126, 3) := by decide +kernel
theorem dX3_needCell_16 : decode cX3_needCell 16 = .ok (.dup, 1) := by decide +kernel
theorem dX3_needCell_17 : decode cX3_needCell 17 = .ok (.ldc 183, 2) := by decide +kernel
theorem dX3_needCell_19 : decode cX3_needCell 19 = .ok (.invokespecial 130, 3) := by decide +kernel
theorem dX3_needCell_22 : decode cX3_needCell 22 = .ok (.athrow, 1) := by decide +kernel
theorem dX3_needCell_23 : decode cX3_needCell 23 = .ok (.return_, 1) := by decide +kernel
theorem dX3_needLastCell_0 : decode cX3_needLastCell 0 = .ok (.iload_n 1, 1) := by decide +kernel
theorem dX3_needLastCell_1 : decode cX3_needLastCell 1 = .ok (.i2l, 1) := by decide +kernel
theorem dX3_needLastCell_2 : decode cX3_needLastCell 2 = .ok (.iload_n 3, 1) := by decide +kernel
theorem dX3_needLastCell_3 : decode cX3_needLastCell 3 = .ok (.i2l, 1) := by decide +kernel
theorem dX3_needLastCell_4 : decode cX3_needLastCell 4 = .ok (.lconst 1, 1) := by decide +kernel
theorem dX3_needLastCell_5 : decode cX3_needLastCell 5 = .ok (.lsub, 1) := by decide +kernel
theorem dX3_needLastCell_6 : decode cX3_needLastCell 6 = .ok (.iload_n 2, 1) := by decide +kernel
theorem dX3_needLastCell_7 : decode cX3_needLastCell 7 = .ok (.i2l, 1) := by decide +kernel
theorem dX3_needLastCell_8 : decode cX3_needLastCell 8 = .ok (.lmul, 1) := by decide +kernel
theorem dX3_needLastCell_9 : decode cX3_needLastCell 9 = .ok (.ladd, 1) := by decide +kernel
theorem dX3_needLastCell_10 : decode cX3_needLastCell 10 = .ok (.lstore 4, 2) := by decide +kernel
theorem dX3_needLastCell_12 : decode cX3_needLastCell 12 = .ok (.lload 4, 2) := by decide +kernel
theorem dX3_needLastCell_14 : decode cX3_needLastCell 14 = .ok (.lconst 0, 1) := by decide +kernel
theorem dX3_needLastCell_15 : decode cX3_needLastCell 15 = .ok (.lcmp, 1) := by decide +kernel
theorem dX3_needLastCell_16 : decode cX3_needLastCell 16 = .ok (.ifCond .lt 15, 3) := by decide +kernel
theorem dX3_needLastCell_19 : decode cX3_needLastCell 19 = .ok (.lload 4, 2) := by decide +kernel
theorem dX3_needLastCell_21 : decode cX3_needLastCell 21 = .ok (.aload_n 0, 1) := by decide +kernel
theorem dX3_needLastCell_22 : decode cX3_needLastCell 22 = .ok (.getfield 9, 3) := by decide +kernel
theorem dX3_needLastCell_25 : decode cX3_needLastCell 25 = .ok (.arraylength, 1) := by decide +kernel
theorem dX3_needLastCell_26 : decode cX3_needLastCell 26 = .ok (.i2l, 1) := by decide +kernel
theorem dX3_needLastCell_27 : decode cX3_needLastCell 27 = .ok (.lcmp, 1) := by decide +kernel
theorem dX3_needLastCell_28 : decode cX3_needLastCell 28 = .ok (.ifCond .lt 13, 3) := by decide +kernel
theorem dX3_needLastCell_31 : decode cX3_needLastCell 31 = .ok (.new 126, 3) := by decide +kernel
theorem dX3_needLastCell_34 : decode cX3_needLastCell 34 = .ok (.dup, 1) := by decide +kernel
theorem dX3_needLastCell_35 : decode cX3_needLastCell 35 = .ok (.ldc 185, 2) := by decide +kernel
theorem dX3_needLastCell_37 : decode cX3_needLastCell 37 = .ok (.invokespecial 130, 3) := by decide +kernel
theorem dX3_needLastCell_40 : decode cX3_needLastCell 40 = .ok (.athrow, 1) := by decide +kernel
theorem dX3_needLastCell_41 : decode cX3_needLastCell 41 = .ok (.return_, 1) := by decide +kernel
theorem dX3_needWayAndNumber_0 : decode cX3_needWayAndNumber 0 = .ok (.iload_n 0, 1) := by decide +kernel
theorem dX3_needWayAndNumber_1 : decode cX3_needWayAndNumber 1 = .ok (.ifCond .lt 8, 3) := by decide +kernel
theorem dX3_needWayAndNumber_4 : decode cX3_needWayAndNumber 4 = .ok (.iload_n 0, 1) := by decide +kernel
theorem dX3_needWayAndNumber_5 : decode cX3_needWayAndNumber 5 = .ok (.iconst 2, 1) := by decide +kernel
theorem dX3_needWayAndNumber_6 : decode cX3_needWayAndNumber 6 = .ok (.if_icmp .le 13, 3) := by decide +kernel
theorem dX3_needWayAndNumber_9 : decode cX3_needWayAndNumber 9 = .ok (.new 41, 3) := by decide +kernel
theorem dX3_needWayAndNumber_12 : decode cX3_needWayAndNumber 12 = .ok (.dup, 1) := by decide +kernel
theorem dX3_needWayAndNumber_13 : decode cX3_needWayAndNumber 13 = .ok (.ldc 187, 2) := by decide +kernel
theorem dX3_needWayAndNumber_15 : decode cX3_needWayAndNumber 15 = .ok (.invokespecial 45, 3) := by decide +kernel
theorem dX3_needWayAndNumber_18 : decode cX3_needWayAndNumber 18 = .ok (.athrow, 1) := by decide +kernel
theorem dX3_needWayAndNumber_19 : decode cX3_needWayAndNumber 19 = .ok (.fload_n 1, 1) := by decide +kernel
theorem dX3_needWayAndNumber_20 : decode cX3_needWayAndNumber 20 = .ok (.ldc 189, 2) := by decide +kernel
theorem dX3_needWayAndNumber_22 : decode cX3_needWayAndNumber 22 = .ok (.fcmp .l, 1) := by decide +kernel
theorem dX3_needWayAndNumber_23 : decode cX3_needWayAndNumber 23 = .ok (.ifCond .lt 10, 3) := by decide +kernel
theorem dX3_needWayAndNumber_26 : decode cX3_needWayAndNumber 26 = .ok (.fload_n 1, 1) := by decide +kernel
theorem dX3_needWayAndNumber_27 : decode cX3_needWayAndNumber 27 = .ok (.ldc 190, 2) := by decide +kernel
theorem dX3_needWayAndNumber_29 : decode cX3_needWayAndNumber 29 = .ok (.fcmp .g, 1) := by decide +kernel
theorem dX3_needWayAndNumber_30 : decode cX3_needWayAndNumber 30 = .ok (.ifCond .le 13, 3) := by decide +kernel
theorem dX3_needWayAndNumber_33 : decode cX3_needWayAndNumber 33 = .ok (.new 41, 3) := by decide +kernel
theorem dX3_needWayAndNumber_36 : decode cX3_needWayAndNumber 36 = .ok (.dup, 1) := by decide +kernel
theorem dX3_needWayAndNumber_37 : decode cX3_needWayAndNumber 37 = .ok (.ldc 191, 2) := by decide +kernel
theorem dX3_needWayAndNumber_39 : decode cX3_needWayAndNumber 39 = .ok (.invokespecial 45, 3) := by decide +kernel
theorem dX3_needWayAndNumber_42 : decode cX3_needWayAndNumber 42 = .ok (.athrow, 1) := by decide +kernel
theorem dX3_needWayAndNumber_43 : decode cX3_needWayAndNumber 43 = .ok (.return_, 1) := by decide +kernel
theorem dX3_needRoom_0 : decode cX3_needRoom 0 = .ok (.iload_n 1, 1) := by decide +kernel
theorem dX3_needRoom_1 : decode cX3_needRoom 1 = .ok (.sipush 512, 3) := by decide +kernel
theorem dX3_needRoom_4 : decode cX3_needRoom 4 = .ok (.aload_n 0, 1) := by decide +kernel
theorem dX3_needRoom_5 : decode cX3_needRoom 5 = .ok (.getfield 23, 3) := by decide +kernel
theorem dX3_needRoom_8 : decode cX3_needRoom 8 = .ok (.getfield 60, 3) := by decide +kernel
theorem dX3_needRoom_11 : decode cX3_needRoom 11 = .ok (.isub, 1) := by decide +kernel
theorem dX3_needRoom_12 : decode cX3_needRoom 12 = .ok (.if_icmp .le 13, 3) := by decide +kernel
theorem dX3_needRoom_15 : decode cX3_needRoom 15 = .ok (.new 52, 3) := by decide +kernel
theorem dX3_needRoom_18 : decode cX3_needRoom 18 = .ok (.dup, 1) := by decide +kernel
theorem dX3_needRoom_19 : decode cX3_needRoom 19 = .ok (.ldc 193, 2) := by decide +kernel
theorem dX3_needRoom_21 : decode cX3_needRoom 21 = .ok (.invokespecial 56, 3) := by decide +kernel
theorem dX3_needRoom_24 : decode cX3_needRoom 24 = .ok (.athrow, 1) := by decide +kernel
theorem dX3_needRoom_25 : decode cX3_needRoom 25 = .ok (.return_, 1) := by decide +kernel
set_option maxRecDepth 20000 in
theorem ggX3_neededSnapshot_X2_find : GoodIn wsX3_neededSnapshot wsX2_find := goodIn_r _ [7, 8, 9, 10, 5, 11, 12, 13, 14, 15, 16, 17, 18, 19, 20, 21, 22, 30, 31, 32, 33] (by decide +kernel) (by decide +kernel)
set_option maxRecDepth 20000 in
theorem gX3_neededSnapshot_X2_find_n195 : GoodIn wsX3_neededSnapshot (wsX2_find) := ggX3_neededSnapshot_X2_find
theorem dX3_neededSnapshot_0 : decode cX3_neededSnapshot 0 = .ok (.aload_n 0, 1) := by decide +kernel
theorem dX3_neededSnapshot_1 : decode cX3_neededSnapshot 1 = .ok (.getfield 32, 3) := by decide +kernel
theorem dX3_neededSnapshot_4 : decode cX3_neededSnapshot 4 = .ok (.iload_n 1, 1) := by decide +kernel
theorem dX3_neededSnapshot_5 : decode cX3_neededSnapshot 5 = .ok (.invokevirtual 195, 3) := by decide +kernel
theorem dX3_neededSnapshot_8 : decode cX3_neededSnapshot 8 = .ok (.istore_n 2, 1) := by decide +kernel
theorem dX3_neededSnapshot_9 : decode cX3_neededSnapshot 9 = .ok (.iload_n 2, 1) := by decide +kernel
theorem dX3_neededSnapshot_10 : decode cX3_neededSnapshot 10 = .ok (.iconst (-1), 1) := by decide +kernel
theorem dX3_neededSnapshot_11 : decode cX3_neededSnapshot 11 = .ok (.if_icmp .ne 13, 3) := by decide +kernel
theorem dX3_neededSnapshot_14 : decode cX3_neededSnapshot 14 = .ok (.new 126, 3) := by decide +kernel
theorem dX3_neededSnapshot_17 : decode cX3_neededSnapshot 17 = .ok (.dup, 1) := by decide +kernel
theorem dX3_neededSnapshot_18 : decode cX3_neededSnapshot 18 = .ok (.ldc 198, 2) := by decide +kernel
theorem dX3_neededSnapshot_20 : decode cX3_neededSnapshot 20 = .ok (.invokespecial 130, 3) := by decide +kernel
theorem dX3_neededSnapshot_23 : decode cX3_neededSnapshot 23 = .ok (.athrow, 1) := by decide +kernel
theorem dX3_neededSnapshot_24 : decode cX3_neededSnapshot 24 = .ok (.iload_n 2, 1) := by decide +kernel
theorem dX3_neededSnapshot_25 : decode cX3_neededSnapshot 25 = .ok (.ireturn, 1) := by decide +kernel
set_option maxRecDepth 20000 in
theorem ggX3_neededPlace_X1_sizeOf : GoodIn wsX3_neededPlace wsX1_sizeOf := goodIn_r _ [7, 8, 9, 10, 5, 11, 12, 13, 21, 22, 23, 24, 25] (by decide +kernel) (by decide +kernel)
set_option maxRecDepth 20000 in
theorem gX3_neededPlace_X1_sizeOf_n82 : GoodIn wsX3_neededPlace (wsX1_sizeOf) := ggX3_neededPlace_X1_sizeOf
set_option maxRecDepth 20000 in
theorem ggX3_neededPlace_X1_sizeBelow : GoodIn wsX3_neededPlace wsX1_sizeBelow := goodIn_r _ [11, 12, 13, 21, 22, 23, 24, 25] (by decide +kernel) (by decide +kernel)
set_option maxRecDepth 20000 in
theorem gX3_neededPlace_X1_sizeBelow_n202 : GoodIn wsX3_neededPlace (wsX1_sizeBelow) := ggX3_neededPlace_X1_sizeBelow
theorem dX3_neededPlace_0 : decode cX3_neededPlace 0 = .ok (.iload_n 2, 1) := by decide +kernel
theorem dX3_neededPlace_1 : decode cX3_neededPlace 1 = .ok (.ifCond .lt 15, 3) := by decide +kernel
theorem dX3_neededPlace_4 : decode cX3_neededPlace 4 = .ok (.iload_n 2, 1) := by decide +kernel
theorem dX3_neededPlace_5 : decode cX3_neededPlace 5 = .ok (.aload_n 0, 1) := by decide +kernel
theorem dX3_neededPlace_6 : decode cX3_neededPlace 6 = .ok (.getfield 23, 3) := by decide +kernel
theorem dX3_neededPlace_9 : decode cX3_neededPlace 9 = .ok (.iload_n 1, 1) := by decide +kernel
theorem dX3_neededPlace_10 : decode cX3_neededPlace 10 = .ok (.invokevirtual 82, 3) := by decide +kernel
theorem dX3_neededPlace_13 : decode cX3_neededPlace 13 = .ok (.if_icmp .lt 13, 3) := by decide +kernel
theorem dX3_neededPlace_16 : decode cX3_neededPlace 16 = .ok (.new 126, 3) := by decide +kernel
theorem dX3_neededPlace_19 : decode cX3_neededPlace 19 = .ok (.dup, 1) := by decide +kernel
theorem dX3_neededPlace_20 : decode cX3_neededPlace 20 = .ok (.ldc 200, 2) := by decide +kernel
theorem dX3_neededPlace_22 : decode cX3_neededPlace 22 = .ok (.invokespecial 130, 3) := by decide +kernel
theorem dX3_neededPlace_25 : decode cX3_neededPlace 25 = .ok (.athrow, 1) := by decide +kernel
theorem dX3_neededPlace_26 : decode cX3_neededPlace 26 = .ok (.aload_n 0, 1) := by decide +kernel
theorem dX3_neededPlace_27 : decode cX3_neededPlace 27 = .ok (.getfield 23, 3) := by decide +kernel
theorem dX3_neededPlace_30 : decode cX3_neededPlace 30 = .ok (.iload_n 1, 1) := by decide +kernel
theorem dX3_neededPlace_31 : decode cX3_neededPlace 31 = .ok (.i2l, 1) := by decide +kernel
theorem dX3_neededPlace_32 : decode cX3_neededPlace 32 = .ok (.invokevirtual 202, 3) := by decide +kernel
theorem dX3_neededPlace_35 : decode cX3_neededPlace 35 = .ok (.iload_n 2, 1) := by decide +kernel
theorem dX3_neededPlace_36 : decode cX3_neededPlace 36 = .ok (.iadd, 1) := by decide +kernel
theorem dX3_neededPlace_37 : decode cX3_neededPlace 37 = .ok (.ireturn, 1) := by decide +kernel
theorem dX3_held_0 : decode cX3_held 0 = .ok (.fload_n 0, 1) := by decide +kernel
theorem dX3_held_1 : decode cX3_held 1 = .ok (.ldc 189, 2) := by decide +kernel
theorem dX3_held_3 : decode cX3_held 3 = .ok (.fcmp .g, 1) := by decide +kernel
theorem dX3_held_4 : decode cX3_held 4 = .ok (.ifCond .ge 6, 3) := by decide +kernel
theorem dX3_held_7 : decode cX3_held 7 = .ok (.ldc 189, 2) := by decide +kernel
theorem dX3_held_9 : decode cX3_held 9 = .ok (.freturn, 1) := by decide +kernel
theorem dX3_held_10 : decode cX3_held 10 = .ok (.fload_n 0, 1) := by decide +kernel
theorem dX3_held_11 : decode cX3_held 11 = .ok (.ldc 190, 2) := by decide +kernel
theorem dX3_held_13 : decode cX3_held 13 = .ok (.fcmp .l, 1) := by decide +kernel
theorem dX3_held_14 : decode cX3_held 14 = .ok (.ifCond .le 6, 3) := by decide +kernel
theorem dX3_held_17 : decode cX3_held 17 = .ok (.ldc 190, 2) := by decide +kernel
theorem dX3_held_19 : decode cX3_held 19 = .ok (.freturn, 1) := by decide +kernel
theorem dX3_held_20 : decode cX3_held 20 = .ok (.fload_n 0, 1) := by decide +kernel
theorem dX3_held_21 : decode cX3_held 21 = .ok (.fconst 0, 1) := by decide +kernel
theorem dX3_held_22 : decode cX3_held 22 = .ok (.fadd, 1) := by decide +kernel
theorem dX3_held_23 : decode cX3_held 23 = .ok (.freturn, 1) := by decide +kernel
set_option maxRecDepth 20000 in
theorem ggX4_init_X4_keepNow : GoodIn wsX4_init wsX4_keepNow := goodIn_r _ [21, 22, 23, 14, 16, 15, 5, 24, 25, 26, 20, 27, 28, 29, 30, 31, 32, 33, 34, 35, 36, 10, 11, 12, 13, 37, 38, 39, 40, 41, 42, 43, 44, 45, 46, 47, 48, 49, 50, 51, 52, 53, 54] (by decide +kernel) (by decide +kernel)
set_option maxRecDepth 20000 in
theorem gX4_init_X4_keepNow : GoodIn wsX4_init (wsV RX4 45 RX4 yX4_keepNow wsX4_keepNow) := goodIn_app (goodIn_of _ (by decide +kernel)) ggX4_init_X4_keepNow
theorem dX4_init_0 : decode cX4_init 0 = .ok (.aload_n 0, 1) := by decide +kernel
theorem dX4_init_1 : decode cX4_init 1 = .ok (.invokespecial 1, 3) := by decide +kernel
theorem dX4_init_4 : decode cX4_init 4 = .ok (.aload_n 0, 1) := by decide +kernel
theorem dX4_init_5 : decode cX4_init 5 = .ok (.sipush 256, 3) := by decide +kernel
theorem dX4_init_8 : decode cX4_init 8 = .ok (.newarray .float, 2) := by decide +kernel
theorem dX4_init_10 : decode cX4_init 10 = .ok (.putfield 7, 3) := by decide +kernel
theorem dX4_init_13 : decode cX4_init 13 = .ok (.aload_n 0, 1) := by decide +kernel
theorem dX4_init_14 : decode cX4_init 14 = .ok (.bipush 64, 2) := by decide +kernel
theorem dX4_init_16 : decode cX4_init 16 = .ok (.newarray .int, 2) := by decide +kernel
theorem dX4_init_18 : decode cX4_init 18 = .ok (.putfield 13, 3) := by decide +kernel
theorem dX4_init_21 : decode cX4_init 21 = .ok (.aload_n 0, 1) := by decide +kernel
theorem dX4_init_22 : decode cX4_init 22 = .ok (.bipush 64, 2) := by decide +kernel
theorem dX4_init_24 : decode cX4_init 24 = .ok (.newarray .int, 2) := by decide +kernel
theorem dX4_init_26 : decode cX4_init 26 = .ok (.putfield 17, 3) := by decide +kernel
theorem dX4_init_29 : decode cX4_init 29 = .ok (.aload_n 0, 1) := by decide +kernel
theorem dX4_init_30 : decode cX4_init 30 = .ok (.bipush 64, 2) := by decide +kernel
theorem dX4_init_32 : decode cX4_init 32 = .ok (.newarray .float, 2) := by decide +kernel
theorem dX4_init_34 : decode cX4_init 34 = .ok (.putfield 20, 3) := by decide +kernel
theorem dX4_init_37 : decode cX4_init 37 = .ok (.aload_n 0, 1) := by decide +kernel
theorem dX4_init_38 : decode cX4_init 38 = .ok (.sipush 512, 3) := by decide +kernel
theorem dX4_init_41 : decode cX4_init 41 = .ok (.newarray .int, 2) := by decide +kernel
theorem dX4_init_43 : decode cX4_init 43 = .ok (.putfield 23, 3) := by decide +kernel
theorem dX4_init_46 : decode cX4_init 46 = .ok (.aload_n 0, 1) := by decide +kernel
theorem dX4_init_47 : decode cX4_init 47 = .ok (.sipush 512, 3) := by decide +kernel
theorem dX4_init_50 : decode cX4_init 50 = .ok (.newarray .int, 2) := by decide +kernel
theorem dX4_init_52 : decode cX4_init 52 = .ok (.putfield 26, 3) := by decide +kernel
theorem dX4_init_55 : decode cX4_init 55 = .ok (.aload_n 0, 1) := by decide +kernel
theorem dX4_init_56 : decode cX4_init 56 = .ok (.sipush 512, 3) := by decide +kernel
theorem dX4_init_59 : decode cX4_init 59 = .ok (.newarray .int, 2) := by decide +kernel
theorem dX4_init_61 : decode cX4_init 61 = .ok (.putfield 29, 3) := by decide +kernel
theorem dX4_init_64 : decode cX4_init 64 = .ok (.aload_n 0, 1) := by decide +kernel
theorem dX4_init_65 : decode cX4_init 65 = .ok (.sipush 512, 3) := by decide +kernel
theorem dX4_init_68 : decode cX4_init 68 = .ok (.newarray .float, 2) := by decide +kernel
theorem dX4_init_70 : decode cX4_init 70 = .ok (.putfield 32, 3) := by decide +kernel
theorem dX4_init_73 : decode cX4_init 73 = .ok (.aload_n 0, 1) := by decide +kernel
theorem dX4_init_74 : decode cX4_init 74 = .ok (.bipush 16, 2) := by decide +kernel
theorem dX4_init_76 : decode cX4_init 76 = .ok (.newarray .int, 2) := by decide +kernel
theorem dX4_init_78 : decode cX4_init 78 = .ok (.putfield 35, 3) := by decide +kernel
theorem dX4_init_81 : decode cX4_init 81 = .ok (.aload_n 0, 1) := by decide +kernel
theorem dX4_init_82 : decode cX4_init 82 = .ok (.sipush 4096, 3) := by decide +kernel
theorem dX4_init_85 : decode cX4_init 85 = .ok (.newarray .float, 2) := by decide +kernel
theorem dX4_init_87 : decode cX4_init 87 = .ok (.putfield 38, 3) := by decide +kernel
theorem dX4_init_90 : decode cX4_init 90 = .ok (.aload_n 0, 1) := by decide +kernel
theorem dX4_init_91 : decode cX4_init 91 = .ok (.iload_n 1, 1) := by decide +kernel
theorem dX4_init_92 : decode cX4_init 92 = .ok (.iconst 1, 1) := by decide +kernel
theorem dX4_init_93 : decode cX4_init 93 = .ok (.if_icmp .lt 14, 3) := by decide +kernel
theorem dX4_init_96 : decode cX4_init 96 = .ok (.iload_n 1, 1) := by decide +kernel
theorem dX4_init_97 : decode cX4_init 97 = .ok (.sipush 256, 3) := by decide +kernel
theorem dX4_init_100 : decode cX4_init 100 = .ok (.if_icmp .gt 7, 3) := by decide +kernel
theorem dX4_init_103 : decode cX4_init 103 = .ok (.iload_n 1, 1) := by decide +kernel
theorem dX4_init_104 : decode cX4_init 104 = .ok (.goto 5, 3) := by decide +kernel
theorem dX4_init_107 : decode cX4_init 107 = .ok (.bipush 64, 2) := by decide +kernel
theorem dX4_init_109 : decode cX4_init 109 = .ok (.putfield 41, 3) := by decide +kernel
theorem dX4_init_112 : decode cX4_init 112 = .ok (.aload_n 0, 1) := by decide +kernel
theorem dX4_init_113 : decode cX4_init 113 = .ok (.invokevirtual 45, 3) := by decide +kernel
theorem dX4_init_116 : decode cX4_init 116 = .ok (.return_, 1) := by decide +kernel
theorem dX4_thrown_0 : decode cX4_thrown 0 = .ok (.aload_n 0, 1) := by decide +kernel
theorem dX4_thrown_1 : decode cX4_thrown 1 = .ok (.getfield 48, 3) := by decide +kernel
theorem dX4_thrown_4 : decode cX4_thrown 4 = .ok (.ireturn, 1) := by decide +kernel
theorem dX4_goes_0 : decode cX4_goes 0 = .ok (.aload_n 0, 1) := by decide +kernel
theorem dX4_goes_1 : decode cX4_goes 1 = .ok (.iload_n 1, 1) := by decide +kernel
theorem dX4_goes_2 : decode cX4_goes 2 = .ok (.ifCond .ne 7, 3) := by decide +kernel
theorem dX4_goes_5 : decode cX4_goes 5 = .ok (.iconst 1, 1) := by decide +kernel
theorem dX4_goes_6 : decode cX4_goes 6 = .ok (.goto 20, 3) := by decide +kernel
theorem dX4_goes_9 : decode cX4_goes 9 = .ok (.iload_n 2, 1) := by decide +kernel
theorem dX4_goes_10 : decode cX4_goes 10 = .ok (.ifCond .ne 7, 3) := by decide +kernel
theorem dX4_goes_13 : decode cX4_goes 13 = .ok (.iconst 2, 1) := by decide +kernel
theorem dX4_goes_14 : decode cX4_goes 14 = .ok (.goto 12, 3) := by decide +kernel
theorem dX4_goes_17 : decode cX4_goes 17 = .ok (.iload_n 3, 1) := by decide +kernel
theorem dX4_goes_18 : decode cX4_goes 18 = .ok (.ifCond .ne 7, 3) := by decide +kernel
theorem dX4_goes_21 : decode cX4_goes 21 = .ok (.iconst 3, 1) := by decide +kernel
theorem dX4_goes_22 : decode cX4_goes 22 = .ok (.goto 4, 3) := by decide +kernel
theorem dX4_goes_25 : decode cX4_goes 25 = .ok (.iconst 0, 1) := by decide +kernel
theorem dX4_goes_26 : decode cX4_goes 26 = .ok (.putfield 48, 3) := by decide +kernel
theorem dX4_goes_29 : decode cX4_goes 29 = .ok (.aload_n 0, 1) := by decide +kernel
theorem dX4_goes_30 : decode cX4_goes 30 = .ok (.getfield 48, 3) := by decide +kernel
theorem dX4_goes_33 : decode cX4_goes 33 = .ok (.ifCond .ne 7, 3) := by decide +kernel
theorem dX4_goes_36 : decode cX4_goes 36 = .ok (.iconst 1, 1) := by decide +kernel
theorem dX4_goes_37 : decode cX4_goes 37 = .ok (.goto 4, 3) := by decide +kernel
theorem dX4_goes_40 : decode cX4_goes 40 = .ok (.iconst 0, 1) := by decide +kernel
theorem dX4_goes_41 : decode cX4_goes 41 = .ok (.ireturn, 1) := by decide +kernel
theorem dX4_known_0 : decode cX4_known 0 = .ok (.iload_n 1, 1) := by decide +kernel
theorem dX4_known_1 : decode cX4_known 1 = .ok (.ifCond .lt 15, 3) := by decide +kernel
theorem dX4_known_4 : decode cX4_known 4 = .ok (.iload_n 1, 1) := by decide +kernel
theorem dX4_known_5 : decode cX4_known 5 = .ok (.aload_n 0, 1) := by decide +kernel
theorem dX4_known_6 : decode cX4_known 6 = .ok (.getfield 41, 3) := by decide +kernel
theorem dX4_known_9 : decode cX4_known 9 = .ok (.if_icmp .ge 7, 3) := by decide +kernel
theorem dX4_known_12 : decode cX4_known 12 = .ok (.iconst 1, 1) := by decide +kernel
theorem dX4_known_13 : decode cX4_known 13 = .ok (.goto 4, 3) := by decide +kernel
theorem dX4_known_16 : decode cX4_known 16 = .ok (.iconst 0, 1) := by decide +kernel
theorem dX4_known_17 : decode cX4_known 17 = .ok (.ireturn, 1) := by decide +kernel
end
section
theorem dX4_held_0 : decode cX4_held 0 = .ok (.fload_n 0, 1) := by decide +kernel
theorem dX4_held_1 : decode cX4_held 1 = .ok (.ldc 51, 2) := by decide +kernel
theorem dX4_held_3 : decode cX4_held 3 = .ok (.fcmp .g, 1) := by decide +kernel
theorem dX4_held_4 : decode cX4_held 4 = .ok (.ifCond .ge 8, 3) := by decide +kernel
theorem dX4_held_7 : decode cX4_held 7 = .ok (.ldc 51, 2) := by decide +kernel
theorem dX4_held_9 : decode cX4_held 9 = .ok (.goto 18, 3) := by decide +kernel
theorem dX4_held_12 : decode cX4_held 12 = .ok (.fload_n 0, 1) := by decide +kernel
theorem dX4_held_13 : decode cX4_held 13 = .ok (.ldc 52, 2) := by decide +kernel
theorem dX4_held_15 : decode cX4_held 15 = .ok (.fcmp .l, 1) := by decide +kernel
theorem dX4_held_16 : decode cX4_held 16 = .ok (.ifCond .le 8, 3) := by decide +kernel
theorem dX4_held_19 : decode cX4_held 19 = .ok (.ldc 52, 2) := by decide +kernel
theorem dX4_held_21 : decode cX4_held 21 = .ok (.goto 6, 3) := by decide +kernel
theorem dX4_held_24 : decode cX4_held 24 = .ok (.fload_n 0, 1) := by decide +kernel
theorem dX4_held_25 : decode cX4_held 25 = .ok (.fconst 0, 1) := by decide +kernel
theorem dX4_held_26 : decode cX4_held 26 = .ok (.fadd, 1) := by decide +kernel
theorem dX4_held_27 : decode cX4_held 27 = .ok (.freturn, 1) := by decide +kernel
theorem dX4_within_0 : decode cX4_within 0 = .ok (.fload_n 0, 1) := by decide +kernel
theorem dX4_within_1 : decode cX4_within 1 = .ok (.ldc 51, 2) := by decide +kernel
theorem dX4_within_3 : decode cX4_within 3 = .ok (.fcmp .l, 1) := by decide +kernel
theorem dX4_within_4 : decode cX4_within 4 = .ok (.ifCond .lt 14, 3) := by decide +kernel
theorem dX4_within_7 : decode cX4_within 7 = .ok (.fload_n 0, 1) := by decide +kernel
theorem dX4_within_8 : decode cX4_within 8 = .ok (.ldc 52, 2) := by decide +kernel
theorem dX4_within_10 : decode cX4_within 10 = .ok (.fcmp .g, 1) := by decide +kernel
theorem dX4_within_11 : decode cX4_within 11 = .ok (.ifCond .gt 7, 3) := by decide +kernel
theorem dX4_within_14 : decode cX4_within 14 = .ok (.iconst 1, 1) := by decide +kernel
theorem dX4_within_15 : decode cX4_within 15 = .ok (.goto 4, 3) := by decide +kernel
theorem dX4_within_18 : decode cX4_within 18 = .ok (.iconst 0, 1) := by decide +kernel
theorem dX4_within_19 : decode cX4_within 19 = .ok (.ireturn, 1) := by decide +kernel
set_option maxRecDepth 20000 in
theorem ggX4_drift_X4_known : GoodIn wsX4_drift wsX4_known := goodIn_r _ [13, 14, 20, 21, 22, 23, 24, 25, 26, 27, 28, 29, 30, 31, 32, 33, 34, 35, 36, 37] (by decide +kernel) (by decide +kernel)
set_option maxRecDepth 20000 in
theorem gX4_drift_X4_known : GoodIn wsX4_drift (wsV RX4 53 RX4 yX4_known wsX4_known) := goodIn_app (goodIn_of _ (by decide +kernel)) ggX4_drift_X4_known
set_option maxRecDepth 20000 in
theorem ggX4_drift_X4_goes : GoodIn wsX4_drift wsX4_goes := goodIn_r _ [18, 19, 20, 21, 22, 23, 24, 25, 26, 27, 28, 29, 30, 31, 32, 33, 34, 35, 36, 37] (by decide +kernel) (by decide +kernel)
set_option maxRecDepth 20000 in
theorem gX4_drift_X4_goes : GoodIn wsX4_drift (wsV RX4 68 RX4 yX4_goes wsX4_goes) := goodIn_app (goodIn_of _ (by decide +kernel)) ggX4_drift_X4_goes
theorem dX4_drift_0 : decode cX4_drift 0 = .ok (.aload_n 0, 1) := by decide +kernel
theorem dX4_drift_1 : decode cX4_drift 1 = .ok (.aload_n 0, 1) := by decide +kernel
theorem dX4_drift_2 : decode cX4_drift 2 = .ok (.iload_n 1, 1) := by decide +kernel
theorem dX4_drift_3 : decode cX4_drift 3 = .ok (.invokevirtual 53, 3) := by decide +kernel
theorem dX4_drift_6 : decode cX4_drift 6 = .ok (.ifCond .eq 15, 3) := by decide +kernel
theorem dX4_drift_9 : decode cX4_drift 9 = .ok (.aload_n 0, 1) := by decide +kernel
theorem dX4_drift_10 : decode cX4_drift 10 = .ok (.iload_n 2, 1) := by decide +kernel
theorem dX4_drift_11 : decode cX4_drift 11 = .ok (.invokevirtual 53, 3) := by decide +kernel
theorem dX4_drift_14 : decode cX4_drift 14 = .ok (.ifCond .eq 7, 3) := by decide +kernel
theorem dX4_drift_17 : decode cX4_drift 17 = .ok (.iconst 1, 1) := by decide +kernel
theorem dX4_drift_18 : decode cX4_drift 18 = .ok (.goto 4, 3) := by decide +kernel
theorem dX4_drift_21 : decode cX4_drift 21 = .ok (.iconst 0, 1) := by decide +kernel
theorem dX4_drift_22 : decode cX4_drift 22 = .ok (.fload_n 3, 1) := by decide +kernel
theorem dX4_drift_23 : decode cX4_drift 23 = .ok (.ldc 57, 2) := by decide +kernel
theorem dX4_drift_25 : decode cX4_drift 25 = .ok (.fcmp .l, 1) := by decide +kernel
theorem dX4_drift_26 : decode cX4_drift 26 = .ok (.ifCond .lt 14, 3) := by decide +kernel
theorem dX4_drift_29 : decode cX4_drift 29 = .ok (.fload_n 3, 1) := by decide +kernel
theorem dX4_drift_30 : decode cX4_drift 30 = .ok (.ldc 58, 2) := by decide +kernel
theorem dX4_drift_32 : decode cX4_drift 32 = .ok (.fcmp .g, 1) := by decide +kernel
theorem dX4_drift_33 : decode cX4_drift 33 = .ok (.ifCond .gt 7, 3) := by decide +kernel
theorem dX4_drift_36 : decode cX4_drift 36 = .ok (.iconst 1, 1) := by decide +kernel
theorem dX4_drift_37 : decode cX4_drift 37 = .ok (.goto 4, 3) := by decide +kernel
theorem dX4_drift_40 : decode cX4_drift 40 = .ok (.iconst 0, 1) := by decide +kernel
theorem dX4_drift_41 : decode cX4_drift 41 = .ok (.aload_n 0, 1) := by decide +kernel
theorem dX4_drift_42 : decode cX4_drift 42 = .ok (.getfield 59, 3) := by decide +kernel
theorem dX4_drift_45 : decode cX4_drift 45 = .ok (.bipush 64, 2) := by decide +kernel
theorem dX4_drift_47 : decode cX4_drift 47 = .ok (.if_icmp .ge 21, 3) := by decide +kernel
theorem dX4_drift_50 : decode cX4_drift 50 = .ok (.aload_n 0, 1) := by decide +kernel
theorem dX4_drift_51 : decode cX4_drift 51 = .ok (.getfield 62, 3) := by decide +kernel
theorem dX4_drift_54 : decode cX4_drift 54 = .ok (.ifCond .ne 14, 3) := by decide +kernel
theorem dX4_drift_57 : decode cX4_drift 57 = .ok (.aload_n 0, 1) := by decide +kernel
theorem dX4_drift_58 : decode cX4_drift 58 = .ok (.getfield 65, 3) := by decide +kernel
theorem dX4_drift_61 : decode cX4_drift 61 = .ok (.ifCond .ne 7, 3) := by decide +kernel
theorem dX4_drift_64 : decode cX4_drift 64 = .ok (.iconst 1, 1) := by decide +kernel
theorem dX4_drift_65 : decode cX4_drift 65 = .ok (.goto 4, 3) := by decide +kernel
theorem dX4_drift_68 : decode cX4_drift 68 = .ok (.iconst 0, 1) := by decide +kernel
theorem dX4_drift_69 : decode cX4_drift 69 = .ok (.invokevirtual 68, 3) := by decide +kernel
theorem dX4_drift_72 : decode cX4_drift 72 = .ok (.ifCond .ne 5, 3) := by decide +kernel
theorem dX4_drift_75 : decode cX4_drift 75 = .ok (.iconst 0, 1) := by decide +kernel
theorem dX4_drift_76 : decode cX4_drift 76 = .ok (.ireturn, 1) := by decide +kernel
theorem dX4_drift_77 : decode cX4_drift 77 = .ok (.aload_n 0, 1) := by decide +kernel
theorem dX4_drift_78 : decode cX4_drift 78 = .ok (.getfield 13, 3) := by decide +kernel
theorem dX4_drift_81 : decode cX4_drift 81 = .ok (.aload_n 0, 1) := by decide +kernel
theorem dX4_drift_82 : decode cX4_drift 82 = .ok (.getfield 59, 3) := by decide +kernel
theorem dX4_drift_85 : decode cX4_drift 85 = .ok (.iload_n 1, 1) := by decide +kernel
theorem dX4_drift_86 : decode cX4_drift 86 = .ok (.iastore, 1) := by decide +kernel
theorem dX4_drift_87 : decode cX4_drift 87 = .ok (.aload_n 0, 1) := by decide +kernel
theorem dX4_drift_88 : decode cX4_drift 88 = .ok (.getfield 17, 3) := by decide +kernel
theorem dX4_drift_91 : decode cX4_drift 91 = .ok (.aload_n 0, 1) := by decide +kernel
theorem dX4_drift_92 : decode cX4_drift 92 = .ok (.getfield 59, 3) := by decide +kernel
theorem dX4_drift_95 : decode cX4_drift 95 = .ok (.iload_n 2, 1) := by decide +kernel
theorem dX4_drift_96 : decode cX4_drift 96 = .ok (.iastore, 1) := by decide +kernel
theorem dX4_drift_97 : decode cX4_drift 97 = .ok (.aload_n 0, 1) := by decide +kernel
theorem dX4_drift_98 : decode cX4_drift 98 = .ok (.getfield 20, 3) := by decide +kernel
theorem dX4_drift_101 : decode cX4_drift 101 = .ok (.aload_n 0, 1) := by decide +kernel
theorem dX4_drift_102 : decode cX4_drift 102 = .ok (.getfield 59, 3) := by decide +kernel
theorem dX4_drift_105 : decode cX4_drift 105 = .ok (.fload_n 3, 1) := by decide +kernel
theorem dX4_drift_106 : decode cX4_drift 106 = .ok (.fastore, 1) := by decide +kernel
theorem dX4_drift_107 : decode cX4_drift 107 = .ok (.aload_n 0, 1) := by decide +kernel
theorem dX4_drift_108 : decode cX4_drift 108 = .ok (.dup, 1) := by decide +kernel
theorem dX4_drift_109 : decode cX4_drift 109 = .ok (.getfield 59, 3) := by decide +kernel
theorem dX4_drift_112 : decode cX4_drift 112 = .ok (.iconst 1, 1) := by decide +kernel
theorem dX4_drift_113 : decode cX4_drift 113 = .ok (.iadd, 1) := by decide +kernel
theorem dX4_drift_114 : decode cX4_drift 114 = .ok (.putfield 59, 3) := by decide +kernel
theorem dX4_drift_117 : decode cX4_drift 117 = .ok (.aload_n 0, 1) := by decide +kernel
theorem dX4_drift_118 : decode cX4_drift 118 = .ok (.getfield 59, 3) := by decide +kernel
theorem dX4_drift_121 : decode cX4_drift 121 = .ok (.ireturn, 1) := by decide +kernel
set_option maxRecDepth 20000 in
theorem ggX4_every_X4_goes : GoodIn wsX4_every wsX4_goes := goodIn_r _ [6, 7, 8, 9, 10, 11, 12, 13, 14, 15, 16, 17, 18, 19, 20, 21, 22, 23, 24, 25] (by decide +kernel) (by decide +kernel)
set_option maxRecDepth 20000 in
theorem gX4_every_X4_goes : GoodIn wsX4_every (wsV RX4 68 RX4 yX4_goes wsX4_goes) := goodIn_app (goodIn_of _ (by decide +kernel)) ggX4_every_X4_goes
theorem dX4_every_0 : decode cX4_every 0 = .ok (.aload_n 0, 1) := by decide +kernel
theorem dX4_every_1 : decode cX4_every 1 = .ok (.iload_n 1, 1) := by decide +kernel
theorem dX4_every_2 : decode cX4_every 2 = .ok (.ifCond .lt 13, 3) := by decide +kernel
theorem dX4_every_5 : decode cX4_every 5 = .ok (.iload_n 1, 1) := by decide +kernel
theorem dX4_every_6 : decode cX4_every 6 = .ok (.bipush 100, 2) := by decide +kernel
theorem dX4_every_8 : decode cX4_every 8 = .ok (.if_icmp .gt 7, 3) := by decide +kernel
theorem dX4_every_11 : decode cX4_every 11 = .ok (.iconst 1, 1) := by decide +kernel
theorem dX4_every_12 : decode cX4_every 12 = .ok (.goto 4, 3) := by decide +kernel
theorem dX4_every_15 : decode cX4_every 15 = .ok (.iconst 0, 1) := by decide +kernel
theorem dX4_every_16 : decode cX4_every 16 = .ok (.iconst 1, 1) := by decide +kernel
theorem dX4_every_17 : decode cX4_every 17 = .ok (.iconst 1, 1) := by decide +kernel
theorem dX4_every_18 : decode cX4_every 18 = .ok (.invokevirtual 68, 3) := by decide +kernel
theorem dX4_every_21 : decode cX4_every 21 = .ok (.ifCond .ne 5, 3) := by decide +kernel
theorem dX4_every_24 : decode cX4_every 24 = .ok (.iconst 0, 1) := by decide +kernel
theorem dX4_every_25 : decode cX4_every 25 = .ok (.ireturn, 1) := by decide +kernel
theorem dX4_every_26 : decode cX4_every 26 = .ok (.aload_n 0, 1) := by decide +kernel
theorem dX4_every_27 : decode cX4_every 27 = .ok (.getfield 72, 3) := by decide +kernel
theorem dX4_every_30 : decode cX4_every 30 = .ok (.istore_n 2, 1) := by decide +kernel
theorem dX4_every_31 : decode cX4_every 31 = .ok (.aload_n 0, 1) := by decide +kernel
theorem dX4_every_32 : decode cX4_every 32 = .ok (.iload_n 1, 1) := by decide +kernel
theorem dX4_every_33 : decode cX4_every 33 = .ok (.putfield 72, 3) := by decide +kernel
theorem dX4_every_36 : decode cX4_every 36 = .ok (.iload_n 2, 1) := by decide +kernel
theorem dX4_every_37 : decode cX4_every 37 = .ok (.ireturn, 1) := by decide +kernel
theorem dX4_inputsOf_0 : decode cX4_inputsOf 0 = .ok (.iconst 0, 1) := by decide +kernel
theorem dX4_inputsOf_1 : decode cX4_inputsOf 1 = .ok (.istore_n 2, 1) := by decide +kernel
theorem dX4_inputsOf_2 : decode cX4_inputsOf 2 = .ok (.iconst 0, 1) := by decide +kernel
theorem dX4_inputsOf_3 : decode cX4_inputsOf 3 = .ok (.istore_n 3, 1) := by decide +kernel
theorem dX4_inputsOf_4 : decode cX4_inputsOf 4 = .ok (.iload_n 3, 1) := by decide +kernel
theorem dX4_inputsOf_5 : decode cX4_inputsOf 5 = .ok (.aload_n 0, 1) := by decide +kernel
theorem dX4_inputsOf_6 : decode cX4_inputsOf 6 = .ok (.getfield 65, 3) := by decide +kernel
theorem dX4_inputsOf_9 : decode cX4_inputsOf 9 = .ok (.if_icmp .ge 27, 3) := by decide +kernel
theorem dX4_inputsOf_12 : decode cX4_inputsOf 12 = .ok (.aload_n 0, 1) := by decide +kernel
theorem dX4_inputsOf_13 : decode cX4_inputsOf 13 = .ok (.getfield 23, 3) := by decide +kernel
theorem dX4_inputsOf_16 : decode cX4_inputsOf 16 = .ok (.iload_n 3, 1) := by decide +kernel
theorem dX4_inputsOf_17 : decode cX4_inputsOf 17 = .ok (.iaload, 1) := by decide +kernel
theorem dX4_inputsOf_18 : decode cX4_inputsOf 18 = .ok (.iload_n 1, 1) := by decide +kernel
theorem dX4_inputsOf_19 : decode cX4_inputsOf 19 = .ok (.if_icmp .ne 9, 3) := by decide +kernel
theorem dX4_inputsOf_22 : decode cX4_inputsOf 22 = .ok (.iload_n 2, 1) := by decide +kernel
theorem dX4_inputsOf_23 : decode cX4_inputsOf 23 = .ok (.iconst 1, 1) := by decide +kernel
theorem dX4_inputsOf_24 : decode cX4_inputsOf 24 = .ok (.iadd, 1) := by decide +kernel
theorem dX4_inputsOf_25 : decode cX4_inputsOf 25 = .ok (.goto 4, 3) := by decide +kernel
theorem dX4_inputsOf_28 : decode cX4_inputsOf 28 = .ok (.iload_n 2, 1) := by decide +kernel
theorem dX4_inputsOf_29 : decode cX4_inputsOf 29 = .ok (.istore_n 2, 1) := by decide +kernel
theorem dX4_inputsOf_30 : decode cX4_inputsOf 30 = .ok (.iinc 3 1, 3) := by decide +kernel
theorem dX4_inputsOf_33 : decode cX4_inputsOf 33 = .ok (.goto (-29), 3) := by decide +kernel
theorem dX4_inputsOf_36 : decode cX4_inputsOf 36 = .ok (.iload_n 2, 1) := by decide +kernel
theorem dX4_inputsOf_37 : decode cX4_inputsOf 37 = .ok (.ireturn, 1) := by decide +kernel
theorem dX4_put_0 : decode cX4_put 0 = .ok (.aload_n 0, 1) := by decide +kernel
theorem dX4_put_1 : decode cX4_put 1 = .ok (.getfield 23, 3) := by decide +kernel
theorem dX4_put_4 : decode cX4_put 4 = .ok (.aload_n 0, 1) := by decide +kernel
theorem dX4_put_5 : decode cX4_put 5 = .ok (.getfield 65, 3) := by decide +kernel
theorem dX4_put_8 : decode cX4_put 8 = .ok (.iload_n 1, 1) := by decide +kernel
theorem dX4_put_9 : decode cX4_put 9 = .ok (.iastore, 1) := by decide +kernel
theorem dX4_put_10 : decode cX4_put 10 = .ok (.aload_n 0, 1) := by decide +kernel
theorem dX4_put_11 : decode cX4_put 11 = .ok (.getfield 26, 3) := by decide +kernel
theorem dX4_put_14 : decode cX4_put 14 = .ok (.aload_n 0, 1) := by decide +kernel
theorem dX4_put_15 : decode cX4_put 15 = .ok (.getfield 65, 3) := by decide +kernel
theorem dX4_put_18 : decode cX4_put 18 = .ok (.iload_n 2, 1) := by decide +kernel
theorem dX4_put_19 : decode cX4_put 19 = .ok (.iastore, 1) := by decide +kernel
theorem dX4_put_20 : decode cX4_put 20 = .ok (.aload_n 0, 1) := by decide +kernel
theorem dX4_put_21 : decode cX4_put 21 = .ok (.getfield 29, 3) := by decide +kernel
theorem dX4_put_24 : decode cX4_put 24 = .ok (.aload_n 0, 1) := by decide +kernel
theorem dX4_put_25 : decode cX4_put 25 = .ok (.getfield 65, 3) := by decide +kernel
theorem dX4_put_28 : decode cX4_put 28 = .ok (.iload_n 3, 1) := by decide +kernel
theorem dX4_put_29 : decode cX4_put 29 = .ok (.iastore, 1) := by decide +kernel
theorem dX4_put_30 : decode cX4_put 30 = .ok (.aload_n 0, 1) := by decide +kernel
theorem dX4_put_31 : decode cX4_put 31 = .ok (.getfield 32, 3) := by decide +kernel
theorem dX4_put_34 : decode cX4_put 34 = .ok (.aload_n 0, 1) := by decide +kernel
theorem dX4_put_35 : decode cX4_put 35 = .ok (.getfield 65, 3) := by decide +kernel
theorem dX4_put_38 : decode cX4_put 38 = .ok (.fload 4, 2) := by decide +kernel
theorem dX4_put_40 : decode cX4_put 40 = .ok (.fastore, 1) := by decide +kernel
theorem dX4_put_41 : decode cX4_put 41 = .ok (.aload_n 0, 1) := by decide +kernel
theorem dX4_put_42 : decode cX4_put 42 = .ok (.dup, 1) := by decide +kernel
theorem dX4_put_43 : decode cX4_put 43 = .ok (.getfield 65, 3) := by decide +kernel
theorem dX4_put_46 : decode cX4_put 46 = .ok (.iconst 1, 1) := by decide +kernel
theorem dX4_put_47 : decode cX4_put 47 = .ok (.iadd, 1) := by decide +kernel
theorem dX4_put_48 : decode cX4_put 48 = .ok (.putfield 65, 3) := by decide +kernel
theorem dX4_put_51 : decode cX4_put 51 = .ok (.return_, 1) := by decide +kernel
set_option maxRecDepth 20000 in
theorem ggX4_input_X4_known : GoodIn wsX4_input wsX4_known := goodIn_r _ [7, 8, 31, 32, 33, 34, 35, 36, 37, 38, 39, 40, 41, 42, 43, 44, 45, 46, 47, 48] (by decide +kernel) (by decide +kernel)
set_option maxRecDepth 20000 in
theorem gX4_input_X4_known : GoodIn wsX4_input (wsV RX4 53 RX4 yX4_known wsX4_known) := goodIn_app (goodIn_of _ (by decide +kernel)) ggX4_input_X4_known
set_option maxRecDepth 20000 in
theorem ggX4_input_X4_within : GoodIn wsX4_input wsX4_within := goodIn_r _ [11, 12, 13] (by decide +kernel) (by decide +kernel)
set_option maxRecDepth 20000 in
theorem gX4_input_X4_within : GoodIn wsX4_input (va_wsS RX4 75 yX4_within wsX4_within) := goodIn_app (goodIn_of _ (by decide +kernel)) ggX4_input_X4_within
set_option maxRecDepth 20000 in
theorem ggX4_input_X4_goes : GoodIn wsX4_input wsX4_goes := goodIn_r _ [17, 18, 31, 32, 33, 34, 35, 36, 37, 38, 39, 40, 41, 42, 43, 44, 45, 46, 47, 48] (by decide +kernel) (by decide +kernel)
set_option maxRecDepth 20000 in
theorem gX4_input_X4_goes : GoodIn wsX4_input (wsV RX4 68 RX4 yX4_goes wsX4_goes) := goodIn_app (goodIn_of _ (by decide +kernel)) ggX4_input_X4_goes
set_option maxRecDepth 20000 in
theorem ggX4_input_X4_put : GoodIn wsX4_input wsX4_put := goodIn_r _ [22, 23, 1, 24, 25, 26, 31, 32, 33, 34, 35, 36, 37, 38, 39, 40, 41, 42, 43, 44, 45, 46, 47, 48] (by decide +kernel) (by decide +kernel)
set_option maxRecDepth 20000 in
theorem gX4_input_X4_put : GoodIn wsX4_input (wsV RX4 79 RX4 yX4_put wsX4_put) := goodIn_app (goodIn_of _ (by decide +kernel)) ggX4_input_X4_put
set_option maxRecDepth 20000 in
theorem ggX4_input_X4_inputsOf : GoodIn wsX4_input wsX4_inputsOf := goodIn_r _ [30, 1, 23, 31, 32, 33, 34, 35, 36, 37, 38, 39, 40, 41, 42, 43, 44, 45, 46, 47, 48] (by decide +kernel) (by decide +kernel)
set_option maxRecDepth 20000 in
theorem gX4_input_X4_inputsOf : GoodIn wsX4_input (wsV RX4 83 RX4 yX4_inputsOf wsX4_inputsOf) := goodIn_app (goodIn_of _ (by decide +kernel)) ggX4_input_X4_inputsOf
theorem dX4_input_0 : decode cX4_input 0 = .ok (.aload_n 0, 1) := by decide +kernel
theorem dX4_input_1 : decode cX4_input 1 = .ok (.aload_n 0, 1) := by decide +kernel
theorem dX4_input_2 : decode cX4_input 2 = .ok (.iload_n 1, 1) := by decide +kernel
theorem dX4_input_3 : decode cX4_input 3 = .ok (.invokevirtual 53, 3) := by decide +kernel
theorem dX4_input_6 : decode cX4_input 6 = .ok (.iload_n 2, 1) := by decide +kernel
theorem dX4_input_7 : decode cX4_input 7 = .ok (.ifCond .lt 19, 3) := by decide +kernel
theorem dX4_input_10 : decode cX4_input 10 = .ok (.iload_n 2, 1) := by decide +kernel
theorem dX4_input_11 : decode cX4_input 11 = .ok (.iconst 2, 1) := by decide +kernel
theorem dX4_input_12 : decode cX4_input 12 = .ok (.if_icmp .gt 14, 3) := by decide +kernel
theorem dX4_input_15 : decode cX4_input 15 = .ok (.fload_n 3, 1) := by decide +kernel
theorem dX4_input_16 : decode cX4_input 16 = .ok (.invokestatic 75, 3) := by decide +kernel
theorem dX4_input_19 : decode cX4_input 19 = .ok (.ifCond .eq 7, 3) := by decide +kernel
theorem dX4_input_22 : decode cX4_input 22 = .ok (.iconst 1, 1) := by decide +kernel
theorem dX4_input_23 : decode cX4_input 23 = .ok (.goto 4, 3) := by decide +kernel
theorem dX4_input_26 : decode cX4_input 26 = .ok (.iconst 0, 1) := by decide +kernel
theorem dX4_input_27 : decode cX4_input 27 = .ok (.aload_n 0, 1) := by decide +kernel
theorem dX4_input_28 : decode cX4_input 28 = .ok (.getfield 65, 3) := by decide +kernel
theorem dX4_input_31 : decode cX4_input 31 = .ok (.sipush 512, 3) := by decide +kernel
theorem dX4_input_34 : decode cX4_input 34 = .ok (.if_icmp .ge 7, 3) := by decide +kernel
theorem dX4_input_37 : decode cX4_input 37 = .ok (.iconst 1, 1) := by decide +kernel
theorem dX4_input_38 : decode cX4_input 38 = .ok (.goto 4, 3) := by decide +kernel
theorem dX4_input_41 : decode cX4_input 41 = .ok (.iconst 0, 1) := by decide +kernel
theorem dX4_input_42 : decode cX4_input 42 = .ok (.invokevirtual 68, 3) := by decide +kernel
theorem dX4_input_45 : decode cX4_input 45 = .ok (.ifCond .ne 5, 3) := by decide +kernel
theorem dX4_input_48 : decode cX4_input 48 = .ok (.iconst 0, 1) := by decide +kernel
theorem dX4_input_49 : decode cX4_input 49 = .ok (.ireturn, 1) := by decide +kernel
theorem dX4_input_50 : decode cX4_input 50 = .ok (.aload_n 0, 1) := by decide +kernel
theorem dX4_input_51 : decode cX4_input 51 = .ok (.aload_n 0, 1) := by decide +kernel
theorem dX4_input_52 : decode cX4_input 52 = .ok (.getfield 62, 3) := by decide +kernel
theorem dX4_input_55 : decode cX4_input 55 = .ok (.iload_n 1, 1) := by decide +kernel
theorem dX4_input_56 : decode cX4_input 56 = .ok (.iload_n 2, 1) := by decide +kernel
theorem dX4_input_57 : decode cX4_input 57 = .ok (.fload_n 3, 1) := by decide +kernel
theorem dX4_input_58 : decode cX4_input 58 = .ok (.invokevirtual 79, 3) := by decide +kernel
theorem dX4_input_61 : decode cX4_input 61 = .ok (.aload_n 0, 1) := by decide +kernel
theorem dX4_input_62 : decode cX4_input 62 = .ok (.aload_n 0, 1) := by decide +kernel
theorem dX4_input_63 : decode cX4_input 63 = .ok (.getfield 62, 3) := by decide +kernel
theorem dX4_input_66 : decode cX4_input 66 = .ok (.invokevirtual 83, 3) := by decide +kernel
theorem dX4_input_69 : decode cX4_input 69 = .ok (.ireturn, 1) := by decide +kernel
set_option maxRecDepth 20000 in
theorem ggX4_inputs_X4_known : GoodIn wsX4_inputs wsX4_known := goodIn_r _ [8, 1, 31, 32, 33, 34, 35, 36, 37, 38, 39, 40, 41, 42, 43, 44, 45, 46, 47, 48] (by decide +kernel) (by decide +kernel)
set_option maxRecDepth 20000 in
theorem gX4_inputs_X4_known : GoodIn wsX4_inputs (wsV RX4 53 RX4 yX4_known wsX4_known) := goodIn_app (goodIn_of _ (by decide +kernel)) ggX4_inputs_X4_known
set_option maxRecDepth 20000 in
theorem ggX4_inputs_X4_within : GoodIn wsX4_inputs wsX4_within := goodIn_r _ [11, 12, 13] (by decide +kernel) (by decide +kernel)
set_option maxRecDepth 20000 in
theorem gX4_inputs_X4_within : GoodIn wsX4_inputs (va_wsS RX4 75 yX4_within wsX4_within) := goodIn_app (goodIn_of _ (by decide +kernel)) ggX4_inputs_X4_within
set_option maxRecDepth 20000 in
theorem ggX4_inputs_X4_goes : GoodIn wsX4_inputs wsX4_goes := goodIn_r _ [17, 18, 31, 32, 33, 34, 35, 36, 37, 38, 39, 40, 41, 42, 43, 44, 45, 46, 47, 48] (by decide +kernel) (by decide +kernel)
set_option maxRecDepth 20000 in
theorem gX4_inputs_X4_goes : GoodIn wsX4_inputs (wsV RX4 68 RX4 yX4_goes wsX4_goes) := goodIn_app (goodIn_of _ (by decide +kernel)) ggX4_inputs_X4_goes
set_option maxRecDepth 20000 in
theorem ggX4_inputs_X4_put : GoodIn wsX4_inputs wsX4_put := goodIn_r _ [22, 23, 2, 24, 25, 26, 31, 32, 33, 34, 35, 36, 37, 38, 39, 40, 41, 42, 43, 44, 45, 46, 47, 48] (by decide +kernel) (by decide +kernel)
set_option maxRecDepth 20000 in
theorem gX4_inputs_X4_put : GoodIn wsX4_inputs (wsV RX4 79 RX4 yX4_put wsX4_put) := goodIn_app (goodIn_of _ (by decide +kernel)) ggX4_inputs_X4_put
set_option maxRecDepth 20000 in
theorem ggX4_inputs_X4_inputsOf : GoodIn wsX4_inputs wsX4_inputsOf := goodIn_r _ [30, 2, 23, 31, 32, 33, 34, 35, 36, 37, 38, 39, 40, 41, 42, 43, 44, 45, 46, 47, 48] (by decide +kernel) (by decide +kernel)
set_option maxRecDepth 20000 in
theorem gX4_inputs_X4_inputsOf : GoodIn wsX4_inputs (wsV RX4 83 RX4 yX4_inputsOf wsX4_inputsOf) := goodIn_app (goodIn_of _ (by decide +kernel)) ggX4_inputs_X4_inputsOf
theorem dX4_inputs_0 : decode cX4_inputs 0 = .ok (.iload_n 3, 1) := by decide +kernel
theorem dX4_inputs_1 : decode cX4_inputs 1 = .ok (.iconst 1, 1) := by decide +kernel
theorem dX4_inputs_2 : decode cX4_inputs 2 = .ok (.if_icmp .lt 14, 3) := by decide +kernel
theorem dX4_inputs_5 : decode cX4_inputs 5 = .ok (.iload_n 3, 1) := by decide +kernel
theorem dX4_inputs_6 : decode cX4_inputs 6 = .ok (.sipush 256, 3) := by decide +kernel
theorem dX4_inputs_9 : decode cX4_inputs 9 = .ok (.if_icmp .gt 7, 3) := by decide +kernel
theorem dX4_inputs_12 : decode cX4_inputs 12 = .ok (.iconst 1, 1) := by decide +kernel
theorem dX4_inputs_13 : decode cX4_inputs 13 = .ok (.goto 4, 3) := by decide +kernel
theorem dX4_inputs_16 : decode cX4_inputs 16 = .ok (.iconst 0, 1) := by decide +kernel
theorem dX4_inputs_17 : decode cX4_inputs 17 = .ok (.istore 6, 2) := by decide +kernel
theorem dX4_inputs_19 : decode cX4_inputs 19 = .ok (.aload_n 0, 1) := by decide +kernel
theorem dX4_inputs_20 : decode cX4_inputs 20 = .ok (.iload_n 1, 1) := by decide +kernel
theorem dX4_inputs_21 : decode cX4_inputs 21 = .ok (.invokevirtual 53, 3) := by decide +kernel
theorem dX4_inputs_24 : decode cX4_inputs 24 = .ok (.istore 7, 2) := by decide +kernel
theorem dX4_inputs_26 : decode cX4_inputs 26 = .ok (.iconst 1, 1) := by decide +kernel
theorem dX4_inputs_27 : decode cX4_inputs 27 = .ok (.istore 8, 2) := by decide +kernel
theorem dX4_inputs_29 : decode cX4_inputs 29 = .ok (.iload 8, 2) := by decide +kernel
theorem dX4_inputs_31 : decode cX4_inputs 31 = .ok (.iload_n 3, 1) := by decide +kernel
theorem dX4_inputs_32 : decode cX4_inputs 32 = .ok (.if_icmp .ge 55, 3) := by decide +kernel
theorem dX4_inputs_35 : decode cX4_inputs 35 = .ok (.iload 6, 2) := by decide +kernel
theorem dX4_inputs_37 : decode cX4_inputs 37 = .ok (.ifCond .eq 50, 3) := by decide +kernel
theorem dX4_inputs_40 : decode cX4_inputs 40 = .ok (.iload 7, 2) := by decide +kernel
theorem dX4_inputs_42 : decode cX4_inputs 42 = .ok (.ifCond .eq 45, 3) := by decide +kernel
theorem dX4_inputs_45 : decode cX4_inputs 45 = .ok (.iload_n 1, 1) := by decide +kernel
theorem dX4_inputs_46 : decode cX4_inputs 46 = .ok (.i2l, 1) := by decide +kernel
theorem dX4_inputs_47 : decode cX4_inputs 47 = .ok (.iload_n 2, 1) := by decide +kernel
theorem dX4_inputs_48 : decode cX4_inputs 48 = .ok (.i2l, 1) := by decide +kernel
theorem dX4_inputs_49 : decode cX4_inputs 49 = .ok (.iload 8, 2) := by decide +kernel
theorem dX4_inputs_51 : decode cX4_inputs 51 = .ok (.i2l, 1) := by decide +kernel
theorem dX4_inputs_52 : decode cX4_inputs 52 = .ok (.lmul, 1) := by decide +kernel
theorem dX4_inputs_53 : decode cX4_inputs 53 = .ok (.ladd, 1) := by decide +kernel
theorem dX4_inputs_54 : decode cX4_inputs 54 = .ok (.lstore 9, 2) := by decide +kernel
theorem dX4_inputs_56 : decode cX4_inputs 56 = .ok (.lload 9, 2) := by decide +kernel
theorem dX4_inputs_58 : decode cX4_inputs 58 = .ok (.lconst 0, 1) := by decide +kernel
theorem dX4_inputs_59 : decode cX4_inputs 59 = .ok (.lcmp, 1) := by decide +kernel
theorem dX4_inputs_60 : decode cX4_inputs 60 = .ok (.ifCond .lt 18, 3) := by decide +kernel
theorem dX4_inputs_63 : decode cX4_inputs 63 = .ok (.lload 9, 2) := by decide +kernel
theorem dX4_inputs_65 : decode cX4_inputs 65 = .ok (.aload_n 0, 1) := by decide +kernel
theorem dX4_inputs_66 : decode cX4_inputs 66 = .ok (.getfield 41, 3) := by decide +kernel
theorem dX4_inputs_69 : decode cX4_inputs 69 = .ok (.i2l, 1) := by decide +kernel
theorem dX4_inputs_70 : decode cX4_inputs 70 = .ok (.lcmp, 1) := by decide +kernel
theorem dX4_inputs_71 : decode cX4_inputs 71 = .ok (.ifCond .ge 7, 3) := by decide +kernel
theorem dX4_inputs_74 : decode cX4_inputs 74 = .ok (.iconst 1, 1) := by decide +kernel
theorem dX4_inputs_75 : decode cX4_inputs 75 = .ok (.goto 4, 3) := by decide +kernel
theorem dX4_inputs_78 : decode cX4_inputs 78 = .ok (.iconst 0, 1) := by decide +kernel
theorem dX4_inputs_79 : decode cX4_inputs 79 = .ok (.istore 7, 2) := by decide +kernel
theorem dX4_inputs_81 : decode cX4_inputs 81 = .ok (.iinc 8 1, 3) := by decide +kernel
theorem dX4_inputs_84 : decode cX4_inputs 84 = .ok (.goto (-55), 3) := by decide +kernel
theorem dX4_inputs_87 : decode cX4_inputs 87 = .ok (.aload_n 0, 1) := by decide +kernel
theorem dX4_inputs_88 : decode cX4_inputs 88 = .ok (.iload 7, 2) := by decide +kernel
theorem dX4_inputs_90 : decode cX4_inputs 90 = .ok (.iload 6, 2) := by decide +kernel
theorem dX4_inputs_92 : decode cX4_inputs 92 = .ok (.ifCond .eq 26, 3) := by decide +kernel
theorem dX4_inputs_95 : decode cX4_inputs 95 = .ok (.iload 4, 2) := by decide +kernel
theorem dX4_inputs_97 : decode cX4_inputs 97 = .ok (.ifCond .lt 21, 3) := by decide +kernel
theorem dX4_inputs_100 : decode cX4_inputs 100 = .ok (.iload 4, 2) := by decide +kernel
theorem dX4_inputs_102 : decode cX4_inputs 102 = .ok (.iconst 2, 1) := by decide +kernel
theorem dX4_inputs_103 : decode cX4_inputs 103 = .ok (.if_icmp .gt 15, 3) := by decide +kernel
theorem dX4_inputs_106 : decode cX4_inputs 106 = .ok (.fload 5, 2) := by decide +kernel
theorem dX4_inputs_108 : decode cX4_inputs 108 = .ok (.invokestatic 75, 3) := by decide +kernel
theorem dX4_inputs_111 : decode cX4_inputs 111 = .ok (.ifCond .eq 7, 3) := by decide +kernel
theorem dX4_inputs_114 : decode cX4_inputs 114 = .ok (.iconst 1, 1) := by decide +kernel
theorem dX4_inputs_115 : decode cX4_inputs 115 = .ok (.goto 4, 3) := by decide +kernel
theorem dX4_inputs_118 : decode cX4_inputs 118 = .ok (.iconst 0, 1) := by decide +kernel
theorem dX4_inputs_119 : decode cX4_inputs 119 = .ok (.aload_n 0, 1) := by decide +kernel
theorem dX4_inputs_120 : decode cX4_inputs 120 = .ok (.getfield 65, 3) := by decide +kernel
theorem dX4_inputs_123 : decode cX4_inputs 123 = .ok (.iload_n 3, 1) := by decide +kernel
theorem dX4_inputs_124 : decode cX4_inputs 124 = .ok (.iadd, 1) := by decide +kernel
theorem dX4_inputs_125 : decode cX4_inputs 125 = .ok (.sipush 512, 3) := by decide +kernel
theorem dX4_inputs_128 : decode cX4_inputs 128 = .ok (.if_icmp .gt 7, 3) := by decide +kernel
theorem dX4_inputs_131 : decode cX4_inputs 131 = .ok (.iconst 1, 1) := by decide +kernel
theorem dX4_inputs_132 : decode cX4_inputs 132 = .ok (.goto 4, 3) := by decide +kernel
theorem dX4_inputs_135 : decode cX4_inputs 135 = .ok (.iconst 0, 1) := by decide +kernel
theorem dX4_inputs_136 : decode cX4_inputs 136 = .ok (.invokevirtual 68, 3) := by decide +kernel
theorem dX4_inputs_139 : decode cX4_inputs 139 = .ok (.ifCond .ne 5, 3) := by decide +kernel
theorem dX4_inputs_142 : decode cX4_inputs 142 = .ok (.iconst 0, 1) := by decide +kernel
theorem dX4_inputs_143 : decode cX4_inputs 143 = .ok (.ireturn, 1) := by decide +kernel
theorem dX4_inputs_144 : decode cX4_inputs 144 = .ok (.iconst 0, 1) := by decide +kernel
theorem dX4_inputs_145 : decode cX4_inputs 145 = .ok (.istore 8, 2) := by decide +kernel
theorem dX4_inputs_147 : decode cX4_inputs 147 = .ok (.iload 8, 2) := by decide +kernel
theorem dX4_inputs_149 : decode cX4_inputs 149 = .ok (.iload_n 3, 1) := by decide +kernel
theorem dX4_inputs_150 : decode cX4_inputs 150 = .ok (.if_icmp .ge 27, 3) := by decide +kernel
theorem dX4_inputs_153 : decode cX4_inputs 153 = .ok (.aload_n 0, 1) := by decide +kernel
theorem dX4_inputs_154 : decode cX4_inputs 154 = .ok (.aload_n 0, 1) := by decide +kernel
theorem dX4_inputs_155 : decode cX4_inputs 155 = .ok (.getfield 62, 3) := by decide +kernel
theorem dX4_inputs_158 : decode cX4_inputs 158 = .ok (.iload_n 1, 1) := by decide +kernel
theorem dX4_inputs_159 : decode cX4_inputs 159 = .ok (.iload_n 2, 1) := by decide +kernel
theorem dX4_inputs_160 : decode cX4_inputs 160 = .ok (.iload 8, 2) := by decide +kernel
theorem dX4_inputs_162 : decode cX4_inputs 162 = .ok (.imul, 1) := by decide +kernel
theorem dX4_inputs_163 : decode cX4_inputs 163 = .ok (.iadd, 1) := by decide +kernel
theorem dX4_inputs_164 : decode cX4_inputs 164 = .ok (.iload 4, 2) := by decide +kernel
theorem dX4_inputs_166 : decode cX4_inputs 166 = .ok (.fload 5, 2) := by decide +kernel
theorem dX4_inputs_168 : decode cX4_inputs 168 = .ok (.invokevirtual 79, 3) := by decide +kernel
theorem dX4_inputs_171 : decode cX4_inputs 171 = .ok (.iinc 8 1, 3) := by decide +kernel
theorem dX4_inputs_174 : decode cX4_inputs 174 = .ok (.goto (-27), 3) := by decide +kernel
theorem dX4_inputs_177 : decode cX4_inputs 177 = .ok (.aload_n 0, 1) := by decide +kernel
theorem dX4_inputs_178 : decode cX4_inputs 178 = .ok (.aload_n 0, 1) := by decide +kernel
theorem dX4_inputs_179 : decode cX4_inputs 179 = .ok (.getfield 62, 3) := by decide +kernel
theorem dX4_inputs_182 : decode cX4_inputs 182 = .ok (.invokevirtual 83, 3) := by decide +kernel
theorem dX4_inputs_185 : decode cX4_inputs 185 = .ok (.ireturn, 1) := by decide +kernel
theorem dX4_drop_0 : decode cX4_drop 0 = .ok (.iconst 0, 1) := by decide +kernel
theorem dX4_drop_1 : decode cX4_drop 1 = .ok (.istore_n 3, 1) := by decide +kernel
theorem dX4_drop_2 : decode cX4_drop 2 = .ok (.iconst 0, 1) := by decide +kernel
theorem dX4_drop_3 : decode cX4_drop 3 = .ok (.istore 4, 2) := by decide +kernel
theorem dX4_drop_5 : decode cX4_drop 5 = .ok (.iload 4, 2) := by decide +kernel
theorem dX4_drop_7 : decode cX4_drop 7 = .ok (.aload_n 0, 1) := by decide +kernel
theorem dX4_drop_8 : decode cX4_drop 8 = .ok (.getfield 65, 3) := by decide +kernel
theorem dX4_drop_11 : decode cX4_drop 11 = .ok (.if_icmp .ge 98, 3) := by decide +kernel
theorem dX4_drop_14 : decode cX4_drop 14 = .ok (.aload_n 0, 1) := by decide +kernel
theorem dX4_drop_15 : decode cX4_drop 15 = .ok (.getfield 23, 3) := by decide +kernel
theorem dX4_drop_18 : decode cX4_drop 18 = .ok (.iload 4, 2) := by decide +kernel
theorem dX4_drop_20 : decode cX4_drop 20 = .ok (.iaload, 1) := by decide +kernel
theorem dX4_drop_21 : decode cX4_drop 21 = .ok (.iload_n 1, 1) := by decide +kernel
theorem dX4_drop_22 : decode cX4_drop 22 = .ok (.if_icmp .lt 18, 3) := by decide +kernel
theorem dX4_drop_25 : decode cX4_drop 25 = .ok (.aload_n 0, 1) := by decide +kernel
theorem dX4_drop_26 : decode cX4_drop 26 = .ok (.getfield 23, 3) := by decide +kernel
theorem dX4_drop_29 : decode cX4_drop 29 = .ok (.iload 4, 2) := by decide +kernel
theorem dX4_drop_31 : decode cX4_drop 31 = .ok (.iaload, 1) := by decide +kernel
theorem dX4_drop_32 : decode cX4_drop 32 = .ok (.iload_n 2, 1) := by decide +kernel
theorem dX4_drop_33 : decode cX4_drop 33 = .ok (.if_icmp .gt 7, 3) := by decide +kernel
theorem dX4_drop_36 : decode cX4_drop 36 = .ok (.iconst 1, 1) := by decide +kernel
theorem dX4_drop_37 : decode cX4_drop 37 = .ok (.goto 4, 3) := by decide +kernel
theorem dX4_drop_40 : decode cX4_drop 40 = .ok (.iconst 0, 1) := by decide +kernel
theorem dX4_drop_41 : decode cX4_drop 41 = .ok (.istore 5, 2) := by decide +kernel
theorem dX4_drop_43 : decode cX4_drop 43 = .ok (.iload 5, 2) := by decide +kernel
theorem dX4_drop_45 : decode cX4_drop 45 = .ok (.ifCond .ne 58, 3) := by decide +kernel
theorem dX4_drop_48 : decode cX4_drop 48 = .ok (.aload_n 0, 1) := by decide +kernel
theorem dX4_drop_49 : decode cX4_drop 49 = .ok (.getfield 23, 3) := by decide +kernel
theorem dX4_drop_52 : decode cX4_drop 52 = .ok (.iload_n 3, 1) := by decide +kernel
theorem dX4_drop_53 : decode cX4_drop 53 = .ok (.aload_n 0, 1) := by decide +kernel
theorem dX4_drop_54 : decode cX4_drop 54 = .ok (.getfield 23, 3) := by decide +kernel
theorem dX4_drop_57 : decode cX4_drop 57 = .ok (.iload 4, 2) := by decide +kernel
theorem dX4_drop_59 : decode cX4_drop 59 = .ok (.iaload, 1) := by decide +kernel
theorem dX4_drop_60 : decode cX4_drop 60 = .ok (.iastore, 1) := by decide +kernel
theorem dX4_drop_61 : decode cX4_drop 61 = .ok (.aload_n 0, 1) := by decide +kernel
theorem dX4_drop_62 : decode cX4_drop 62 = .ok (.getfield 26, 3) := by decide +kernel
theorem dX4_drop_65 : decode cX4_drop 65 = .ok (.iload_n 3, 1) := by decide +kernel
theorem dX4_drop_66 : decode cX4_drop 66 = .ok (.aload_n 0, 1) := by decide +kernel
theorem dX4_drop_67 : decode cX4_drop 67 = .ok (.getfield 26, 3) := by decide +kernel
theorem dX4_drop_70 : decode cX4_drop 70 = .ok (.iload 4, 2) := by decide +kernel
theorem dX4_drop_72 : decode cX4_drop 72 = .ok (.iaload, 1) := by decide +kernel
theorem dX4_drop_73 : decode cX4_drop 73 = .ok (.iastore, 1) := by decide +kernel
theorem dX4_drop_74 : decode cX4_drop 74 = .ok (.aload_n 0, 1) := by decide +kernel
theorem dX4_drop_75 : decode cX4_drop 75 = .ok (.getfield 29, 3) := by decide +kernel
theorem dX4_drop_78 : decode cX4_drop 78 = .ok (.iload_n 3, 1) := by decide +kernel
theorem dX4_drop_79 : decode cX4_drop 79 = .ok (.aload_n 0, 1) := by decide +kernel
theorem dX4_drop_80 : decode cX4_drop 80 = .ok (.getfield 29, 3) := by decide +kernel
theorem dX4_drop_83 : decode cX4_drop 83 = .ok (.iload 4, 2) := by decide +kernel
theorem dX4_drop_85 : decode cX4_drop 85 = .ok (.iaload, 1) := by decide +kernel
theorem dX4_drop_86 : decode cX4_drop 86 = .ok (.iastore, 1) := by decide +kernel
theorem dX4_drop_87 : decode cX4_drop 87 = .ok (.aload_n 0, 1) := by decide +kernel
theorem dX4_drop_88 : decode cX4_drop 88 = .ok (.getfield 32, 3) := by decide +kernel
theorem dX4_drop_91 : decode cX4_drop 91 = .ok (.iload_n 3, 1) := by decide +kernel
theorem dX4_drop_92 : decode cX4_drop 92 = .ok (.aload_n 0, 1) := by decide +kernel
theorem dX4_drop_93 : decode cX4_drop 93 = .ok (.getfield 32, 3) := by decide +kernel
theorem dX4_drop_96 : decode cX4_drop 96 = .ok (.iload 4, 2) := by decide +kernel
theorem dX4_drop_98 : decode cX4_drop 98 = .ok (.faload, 1) := by decide +kernel
theorem dX4_drop_99 : decode cX4_drop 99 = .ok (.fastore, 1) := by decide +kernel
theorem dX4_drop_100 : decode cX4_drop 100 = .ok (.iinc 3 1, 3) := by decide +kernel
theorem dX4_drop_103 : decode cX4_drop 103 = .ok (.iinc 4 1, 3) := by decide +kernel
theorem dX4_drop_106 : decode cX4_drop 106 = .ok (.goto (-101), 3) := by decide +kernel
theorem dX4_drop_109 : decode cX4_drop 109 = .ok (.aload_n 0, 1) := by decide +kernel
theorem dX4_drop_110 : decode cX4_drop 110 = .ok (.getfield 65, 3) := by decide +kernel
theorem dX4_drop_113 : decode cX4_drop 113 = .ok (.iload_n 3, 1) := by decide +kernel
theorem dX4_drop_114 : decode cX4_drop 114 = .ok (.isub, 1) := by decide +kernel
theorem dX4_drop_115 : decode cX4_drop 115 = .ok (.istore 4, 2) := by decide +kernel
theorem dX4_drop_117 : decode cX4_drop 117 = .ok (.aload_n 0, 1) := by decide +kernel
theorem dX4_drop_118 : decode cX4_drop 118 = .ok (.iload_n 3, 1) := by decide +kernel
theorem dX4_drop_119 : decode cX4_drop 119 = .ok (.putfield 65, 3) := by decide +kernel
theorem dX4_drop_122 : decode cX4_drop 122 = .ok (.iload 4, 2) := by decide +kernel
theorem dX4_drop_124 : decode cX4_drop 124 = .ok (.ireturn, 1) := by decide +kernel
set_option maxRecDepth 20000 in
theorem ggX4_act_X4_held : GoodIn wsX4_act wsX4_held := goodIn_r _ [8, 9, 10] (by decide +kernel) (by decide +kernel)
set_option maxRecDepth 20000 in
theorem gX4_act_X4_held : GoodIn wsX4_act (va_wsS RX4 87 yX4_held wsX4_held) := goodIn_app (goodIn_of _ (by decide +kernel)) ggX4_act_X4_held
theorem dX4_act_0 : decode cX4_act 0 = .ok (.aload_n 0, 1) := by decide +kernel
theorem dX4_act_1 : decode cX4_act 1 = .ok (.getfield 26, 3) := by decide +kernel
theorem dX4_act_4 : decode cX4_act 4 = .ok (.iload_n 1, 1) := by decide +kernel
theorem dX4_act_5 : decode cX4_act 5 = .ok (.iaload, 1) := by decide +kernel
theorem dX4_act_6 : decode cX4_act 6 = .ok (.istore_n 2, 1) := by decide +kernel
theorem dX4_act_7 : decode cX4_act 7 = .ok (.aload_n 0, 1) := by decide +kernel
theorem dX4_act_8 : decode cX4_act 8 = .ok (.getfield 7, 3) := by decide +kernel
theorem dX4_act_11 : decode cX4_act 11 = .ok (.iload_n 2, 1) := by decide +kernel
theorem dX4_act_12 : decode cX4_act 12 = .ok (.aload_n 0, 1) := by decide +kernel
theorem dX4_act_13 : decode cX4_act 13 = .ok (.getfield 29, 3) := by decide +kernel
theorem dX4_act_16 : decode cX4_act 16 = .ok (.iload_n 1, 1) := by decide +kernel
theorem dX4_act_17 : decode cX4_act 17 = .ok (.iaload, 1) := by decide +kernel
theorem dX4_act_18 : decode cX4_act 18 = .ok (.ifCond .ne 12, 3) := by decide +kernel
theorem dX4_act_21 : decode cX4_act 21 = .ok (.aload_n 0, 1) := by decide +kernel
theorem dX4_act_22 : decode cX4_act 22 = .ok (.getfield 32, 3) := by decide +kernel
theorem dX4_act_25 : decode cX4_act 25 = .ok (.iload_n 1, 1) := by decide +kernel
theorem dX4_act_26 : decode cX4_act 26 = .ok (.faload, 1) := by decide +kernel
theorem dX4_act_27 : decode cX4_act 27 = .ok (.goto 42, 3) := by decide +kernel
theorem dX4_act_30 : decode cX4_act 30 = .ok (.aload_n 0, 1) := by decide +kernel
theorem dX4_act_31 : decode cX4_act 31 = .ok (.getfield 29, 3) := by decide +kernel
theorem dX4_act_34 : decode cX4_act 34 = .ok (.iload_n 1, 1) := by decide +kernel
theorem dX4_act_35 : decode cX4_act 35 = .ok (.iaload, 1) := by decide +kernel
theorem dX4_act_36 : decode cX4_act 36 = .ok (.iconst 1, 1) := by decide +kernel
theorem dX4_act_37 : decode cX4_act 37 = .ok (.if_icmp .ne 19, 3) := by decide +kernel
theorem dX4_act_40 : decode cX4_act 40 = .ok (.aload_n 0, 1) := by decide +kernel
theorem dX4_act_41 : decode cX4_act 41 = .ok (.getfield 7, 3) := by decide +kernel
theorem dX4_act_44 : decode cX4_act 44 = .ok (.iload_n 2, 1) := by decide +kernel
theorem dX4_act_45 : decode cX4_act 45 = .ok (.faload, 1) := by decide +kernel
theorem dX4_act_46 : decode cX4_act 46 = .ok (.aload_n 0, 1) := by decide +kernel
theorem dX4_act_47 : decode cX4_act 47 = .ok (.getfield 32, 3) := by decide +kernel
theorem dX4_act_50 : decode cX4_act 50 = .ok (.iload_n 1, 1) := by decide +kernel
theorem dX4_act_51 : decode cX4_act 51 = .ok (.faload, 1) := by decide +kernel
theorem dX4_act_52 : decode cX4_act 52 = .ok (.fadd, 1) := by decide +kernel
theorem dX4_act_53 : decode cX4_act 53 = .ok (.goto 16, 3) := by decide +kernel
theorem dX4_act_56 : decode cX4_act 56 = .ok (.aload_n 0, 1) := by decide +kernel
theorem dX4_act_57 : decode cX4_act 57 = .ok (.getfield 7, 3) := by decide +kernel
theorem dX4_act_60 : decode cX4_act 60 = .ok (.iload_n 2, 1) := by decide +kernel
theorem dX4_act_61 : decode cX4_act 61 = .ok (.faload, 1) := by decide +kernel
theorem dX4_act_62 : decode cX4_act 62 = .ok (.aload_n 0, 1) := by decide +kernel
theorem dX4_act_63 : decode cX4_act 63 = .ok (.getfield 32, 3) := by decide +kernel
theorem dX4_act_66 : decode cX4_act 66 = .ok (.iload_n 1, 1) := by decide +kernel
theorem dX4_act_67 : decode cX4_act 67 = .ok (.faload, 1) := by decide +kernel
theorem dX4_act_68 : decode cX4_act 68 = .ok (.fmul, 1) := by decide +kernel
theorem dX4_act_69 : decode cX4_act 69 = .ok (.invokestatic 87, 3) := by decide +kernel
theorem dX4_act_72 : decode cX4_act 72 = .ok (.fastore, 1) := by decide +kernel
theorem dX4_act_73 : decode cX4_act 73 = .ok (.return_, 1) := by decide +kernel
set_option maxRecDepth 20000 in
theorem ggX4_once_X4_act : GoodIn wsX4_once wsX4_act := goodIn_r _ [15, 16, 5, 17, 18, 19, 20, 14, 21, 22, 23, 44, 45, 46, 47, 48, 49, 50, 51, 52, 53, 54, 55, 56, 57, 58, 59, 60, 61] (by decide +kernel) (by decide +kernel)
set_option maxRecDepth 20000 in
theorem gX4_once_X4_act : GoodIn wsX4_once (wsV RX4 91 RX4 yX4_act wsX4_act) := goodIn_app (goodIn_of _ (by decide +kernel)) ggX4_once_X4_act
set_option maxRecDepth 20000 in
theorem ggX4_once_X4_held : GoodIn wsX4_once wsX4_held := goodIn_r _ [21, 22, 23] (by decide +kernel) (by decide +kernel)
set_option maxRecDepth 20000 in
theorem gX4_once_X4_held : GoodIn wsX4_once (va_wsS RX4 87 yX4_held wsX4_held) := goodIn_app (goodIn_of _ (by decide +kernel)) ggX4_once_X4_held
set_option maxRecDepth 20000 in
theorem ggX4_once_X4_keepNow : GoodIn wsX4_once wsX4_keepNow := goodIn_r _ [27, 3, 28, 29, 30, 31, 5, 32, 33, 34, 14, 35, 36, 37, 38, 39, 40, 41, 42, 43, 1, 2, 16, 17, 18, 44, 45, 46, 47, 48, 49, 50, 51, 52, 53, 54, 55, 56, 57, 58, 59, 60, 61] (by decide +kernel) (by decide +kernel)
set_option maxRecDepth 20000 in
theorem gX4_once_X4_keepNow : GoodIn wsX4_once (wsV RX4 45 RX4 yX4_keepNow wsX4_keepNow) := goodIn_app (goodIn_of _ (by decide +kernel)) ggX4_once_X4_keepNow
theorem dX4_once_0 : decode cX4_once 0 = .ok (.iconst 0, 1) := by decide +kernel
theorem dX4_once_1 : decode cX4_once 1 = .ok (.istore_n 1, 1) := by decide +kernel
theorem dX4_once_2 : decode cX4_once 2 = .ok (.iload_n 1, 1) := by decide +kernel
theorem dX4_once_3 : decode cX4_once 3 = .ok (.aload_n 0, 1) := by decide +kernel
theorem dX4_once_4 : decode cX4_once 4 = .ok (.getfield 65, 3) := by decide +kernel
theorem dX4_once_7 : decode cX4_once 7 = .ok (.if_icmp .ge 27, 3) := by decide +kernel
theorem dX4_once_10 : decode cX4_once 10 = .ok (.aload_n 0, 1) := by decide +kernel
theorem dX4_once_11 : decode cX4_once 11 = .ok (.getfield 23, 3) := by decide +kernel
theorem dX4_once_14 : decode cX4_once 14 = .ok (.iload_n 1, 1) := by decide +kernel
theorem dX4_once_15 : decode cX4_once 15 = .ok (.iaload, 1) := by decide +kernel
theorem dX4_once_16 : decode cX4_once 16 = .ok (.aload_n 0, 1) := by decide +kernel
theorem dX4_once_17 : decode cX4_once 17 = .ok (.getfield 62, 3) := by decide +kernel
theorem dX4_once_20 : decode cX4_once 20 = .ok (.if_icmp .ne 8, 3) := by decide +kernel
theorem dX4_once_23 : decode cX4_once 23 = .ok (.aload_n 0, 1) := by decide +kernel
theorem dX4_once_24 : decode cX4_once 24 = .ok (.iload_n 1, 1) := by decide +kernel
theorem dX4_once_25 : decode cX4_once 25 = .ok (.invokevirtual 91, 3) := by decide +kernel
theorem dX4_once_28 : decode cX4_once 28 = .ok (.iinc 1 1, 3) := by decide +kernel
theorem dX4_once_31 : decode cX4_once 31 = .ok (.goto (-29), 3) := by decide +kernel
theorem dX4_once_34 : decode cX4_once 34 = .ok (.iconst 0, 1) := by decide +kernel
theorem dX4_once_35 : decode cX4_once 35 = .ok (.istore_n 1, 1) := by decide +kernel
theorem dX4_once_36 : decode cX4_once 36 = .ok (.iload_n 1, 1) := by decide +kernel
theorem dX4_once_37 : decode cX4_once 37 = .ok (.aload_n 0, 1) := by decide +kernel
theorem dX4_once_38 : decode cX4_once 38 = .ok (.getfield 59, 3) := by decide +kernel
theorem dX4_once_41 : decode cX4_once 41 = .ok (.if_icmp .ge 53, 3) := by decide +kernel
theorem dX4_once_44 : decode cX4_once 44 = .ok (.aload_n 0, 1) := by decide +kernel
theorem dX4_once_45 : decode cX4_once 45 = .ok (.getfield 7, 3) := by decide +kernel
theorem dX4_once_48 : decode cX4_once 48 = .ok (.aload_n 0, 1) := by decide +kernel
theorem dX4_once_49 : decode cX4_once 49 = .ok (.getfield 17, 3) := by decide +kernel
theorem dX4_once_52 : decode cX4_once 52 = .ok (.iload_n 1, 1) := by decide +kernel
theorem dX4_once_53 : decode cX4_once 53 = .ok (.iaload, 1) := by decide +kernel
theorem dX4_once_54 : decode cX4_once 54 = .ok (.aload_n 0, 1) := by decide +kernel
theorem dX4_once_55 : decode cX4_once 55 = .ok (.getfield 7, 3) := by decide +kernel
theorem dX4_once_58 : decode cX4_once 58 = .ok (.aload_n 0, 1) := by decide +kernel
theorem dX4_once_59 : decode cX4_once 59 = .ok (.getfield 17, 3) := by decide +kernel
theorem dX4_once_62 : decode cX4_once 62 = .ok (.iload_n 1, 1) := by decide +kernel
theorem dX4_once_63 : decode cX4_once 63 = .ok (.iaload, 1) := by decide +kernel
theorem dX4_once_64 : decode cX4_once 64 = .ok (.faload, 1) := by decide +kernel
theorem dX4_once_65 : decode cX4_once 65 = .ok (.aload_n 0, 1) := by decide +kernel
theorem dX4_once_66 : decode cX4_once 66 = .ok (.getfield 7, 3) := by decide +kernel
theorem dX4_once_69 : decode cX4_once 69 = .ok (.aload_n 0, 1) := by decide +kernel
theorem dX4_once_70 : decode cX4_once 70 = .ok (.getfield 13, 3) := by decide +kernel
theorem dX4_once_73 : decode cX4_once 73 = .ok (.iload_n 1, 1) := by decide +kernel
theorem dX4_once_74 : decode cX4_once 74 = .ok (.iaload, 1) := by decide +kernel
theorem dX4_once_75 : decode cX4_once 75 = .ok (.faload, 1) := by decide +kernel
theorem dX4_once_76 : decode cX4_once 76 = .ok (.aload_n 0, 1) := by decide +kernel
theorem dX4_once_77 : decode cX4_once 77 = .ok (.getfield 20, 3) := by decide +kernel
theorem dX4_once_80 : decode cX4_once 80 = .ok (.iload_n 1, 1) := by decide +kernel
theorem dX4_once_81 : decode cX4_once 81 = .ok (.faload, 1) := by decide +kernel
theorem dX4_once_82 : decode cX4_once 82 = .ok (.fmul, 1) := by decide +kernel
theorem dX4_once_83 : decode cX4_once 83 = .ok (.fadd, 1) := by decide +kernel
theorem dX4_once_84 : decode cX4_once 84 = .ok (.invokestatic 87, 3) := by decide +kernel
theorem dX4_once_87 : decode cX4_once 87 = .ok (.fastore, 1) := by decide +kernel
theorem dX4_once_88 : decode cX4_once 88 = .ok (.iinc 1 1, 3) := by decide +kernel
theorem dX4_once_91 : decode cX4_once 91 = .ok (.goto (-55), 3) := by decide +kernel
theorem dX4_once_94 : decode cX4_once 94 = .ok (.aload_n 0, 1) := by decide +kernel
theorem dX4_once_95 : decode cX4_once 95 = .ok (.dup, 1) := by decide +kernel
theorem dX4_once_96 : decode cX4_once 96 = .ok (.getfield 62, 3) := by decide +kernel
theorem dX4_once_99 : decode cX4_once 99 = .ok (.iconst 1, 1) := by decide +kernel
theorem dX4_once_100 : decode cX4_once 100 = .ok (.iadd, 1) := by decide +kernel
theorem dX4_once_101 : decode cX4_once 101 = .ok (.putfield 62, 3) := by decide +kernel
theorem dX4_once_104 : decode cX4_once 104 = .ok (.aload_n 0, 1) := by decide +kernel
theorem dX4_once_105 : decode cX4_once 105 = .ok (.dup, 1) := by decide +kernel
theorem dX4_once_106 : decode cX4_once 106 = .ok (.getfield 95, 3) := by decide +kernel
theorem dX4_once_109 : decode cX4_once 109 = .ok (.iconst 1, 1) := by decide +kernel
theorem dX4_once_110 : decode cX4_once 110 = .ok (.iadd, 1) := by decide +kernel
theorem dX4_once_111 : decode cX4_once 111 = .ok (.putfield 95, 3) := by decide +kernel
theorem dX4_once_114 : decode cX4_once 114 = .ok (.aload_n 0, 1) := by decide +kernel
theorem dX4_once_115 : decode cX4_once 115 = .ok (.getfield 72, 3) := by decide +kernel
theorem dX4_once_118 : decode cX4_once 118 = .ok (.ifCond .le 19, 3) := by decide +kernel
theorem dX4_once_121 : decode cX4_once 121 = .ok (.aload_n 0, 1) := by decide +kernel
theorem dX4_once_122 : decode cX4_once 122 = .ok (.getfield 62, 3) := by decide +kernel
theorem dX4_once_125 : decode cX4_once 125 = .ok (.aload_n 0, 1) := by decide +kernel
theorem dX4_once_126 : decode cX4_once 126 = .ok (.getfield 72, 3) := by decide +kernel
theorem dX4_once_129 : decode cX4_once 129 = .ok (.irem, 1) := by decide +kernel
theorem dX4_once_130 : decode cX4_once 130 = .ok (.ifCond .ne 7, 3) := by decide +kernel
theorem dX4_once_133 : decode cX4_once 133 = .ok (.aload_n 0, 1) := by decide +kernel
theorem dX4_once_134 : decode cX4_once 134 = .ok (.invokevirtual 45, 3) := by decide +kernel
theorem dX4_once_137 : decode cX4_once 137 = .ok (.return_, 1) := by decide +kernel
set_option maxRecDepth 20000 in
theorem ggX4_step_X4_goes : GoodIn wsX4_step wsX4_goes := goodIn_r _ [6, 7, 53, 54, 55, 56, 57, 58, 59, 60, 61, 62, 63, 64, 65, 66, 67, 68, 69, 70] (by decide +kernel) (by decide +kernel)
set_option maxRecDepth 20000 in
theorem gX4_step_X4_goes : GoodIn wsX4_step (wsV RX4 68 RX4 yX4_goes wsX4_goes) := goodIn_app (goodIn_of _ (by decide +kernel)) ggX4_step_X4_goes
set_option maxRecDepth 20000 in
theorem ggX4_step_X4_once : GoodIn wsX4_step wsX4_once := goodIn_r _ [11, 12, 13, 1, 14, 15, 16, 17, 18, 19, 20, 21, 22, 23, 5, 24, 25, 26, 27, 28, 29, 30, 31, 32, 33, 34, 35, 36, 37, 38, 39, 40, 41, 42, 43, 44, 45, 46, 47, 48, 49, 50, 51, 52, 53, 54, 55, 56, 57, 58, 59, 60, 61, 62, 63, 64, 65, 66, 67, 68, 69, 70] (by decide +kernel) (by decide +kernel)
set_option maxRecDepth 20000 in
theorem gX4_step_X4_once : GoodIn wsX4_step (wsV RX4 98 RX4 yX4_once wsX4_once) := goodIn_app (goodIn_of _ (by decide +kernel)) ggX4_step_X4_once
theorem dX4_step_0 : decode cX4_step 0 = .ok (.aload_n 0, 1) := by decide +kernel
theorem dX4_step_1 : decode cX4_step 1 = .ok (.iload_n 1, 1) := by decide +kernel
theorem dX4_step_2 : decode cX4_step 2 = .ok (.iconst 1, 1) := by decide +kernel
theorem dX4_step_3 : decode cX4_step 3 = .ok (.if_icmp .lt 13, 3) := by decide +kernel
theorem dX4_step_6 : decode cX4_step 6 = .ok (.iload_n 1, 1) := by decide +kernel
theorem dX4_step_7 : decode cX4_step 7 = .ok (.bipush 64, 2) := by decide +kernel
theorem dX4_step_9 : decode cX4_step 9 = .ok (.if_icmp .gt 7, 3) := by decide +kernel
theorem dX4_step_12 : decode cX4_step 12 = .ok (.iconst 1, 1) := by decide +kernel
theorem dX4_step_13 : decode cX4_step 13 = .ok (.goto 4, 3) := by decide +kernel
theorem dX4_step_16 : decode cX4_step 16 = .ok (.iconst 0, 1) := by decide +kernel
theorem dX4_step_17 : decode cX4_step 17 = .ok (.iconst 1, 1) := by decide +kernel
theorem dX4_step_18 : decode cX4_step 18 = .ok (.iconst 1, 1) := by decide +kernel
theorem dX4_step_19 : decode cX4_step 19 = .ok (.invokevirtual 68, 3) := by decide +kernel
theorem dX4_step_22 : decode cX4_step 22 = .ok (.ifCond .ne 5, 3) := by decide +kernel
theorem dX4_step_25 : decode cX4_step 25 = .ok (.iconst 0, 1) := by decide +kernel
theorem dX4_step_26 : decode cX4_step 26 = .ok (.ireturn, 1) := by decide +kernel
theorem dX4_step_27 : decode cX4_step 27 = .ok (.iconst 0, 1) := by decide +kernel
theorem dX4_step_28 : decode cX4_step 28 = .ok (.istore_n 2, 1) := by decide +kernel
theorem dX4_step_29 : decode cX4_step 29 = .ok (.iload_n 2, 1) := by decide +kernel
theorem dX4_step_30 : decode cX4_step 30 = .ok (.iload_n 1, 1) := by decide +kernel
theorem dX4_step_31 : decode cX4_step 31 = .ok (.if_icmp .ge 13, 3) := by decide +kernel
theorem dX4_step_34 : decode cX4_step 34 = .ok (.aload_n 0, 1) := by decide +kernel
theorem dX4_step_35 : decode cX4_step 35 = .ok (.invokevirtual 98, 3) := by decide +kernel
theorem dX4_step_38 : decode cX4_step 38 = .ok (.iinc 2 1, 3) := by decide +kernel
theorem dX4_step_41 : decode cX4_step 41 = .ok (.goto (-12), 3) := by decide +kernel
theorem dX4_step_44 : decode cX4_step 44 = .ok (.aload_n 0, 1) := by decide +kernel
theorem dX4_step_45 : decode cX4_step 45 = .ok (.getfield 62, 3) := by decide +kernel
theorem dX4_step_48 : decode cX4_step 48 = .ok (.ireturn, 1) := by decide +kernel
theorem dX4_placeOf_0 : decode cX4_placeOf 0 = .ok (.iconst 0, 1) := by decide +kernel
theorem dX4_placeOf_1 : decode cX4_placeOf 1 = .ok (.istore_n 2, 1) := by decide +kernel
theorem dX4_placeOf_2 : decode cX4_placeOf 2 = .ok (.iload_n 2, 1) := by decide +kernel
theorem dX4_placeOf_3 : decode cX4_placeOf 3 = .ok (.aload_n 0, 1) := by decide +kernel
theorem dX4_placeOf_4 : decode cX4_placeOf 4 = .ok (.getfield 101, 3) := by decide +kernel
theorem dX4_placeOf_7 : decode cX4_placeOf 7 = .ok (.if_icmp .ge 21, 3) := by decide +kernel
theorem dX4_placeOf_10 : decode cX4_placeOf 10 = .ok (.aload_n 0, 1) := by decide +kernel
theorem dX4_placeOf_11 : decode cX4_placeOf 11 = .ok (.getfield 35, 3) := by decide +kernel
theorem dX4_placeOf_14 : decode cX4_placeOf 14 = .ok (.iload_n 2, 1) := by decide +kernel
theorem dX4_placeOf_15 : decode cX4_placeOf 15 = .ok (.iaload, 1) := by decide +kernel
theorem dX4_placeOf_16 : decode cX4_placeOf 16 = .ok (.iload_n 1, 1) := by decide +kernel
theorem dX4_placeOf_17 : decode cX4_placeOf 17 = .ok (.if_icmp .ne 5, 3) := by decide +kernel
theorem dX4_placeOf_20 : decode cX4_placeOf 20 = .ok (.iload_n 2, 1) := by decide +kernel
theorem dX4_placeOf_21 : decode cX4_placeOf 21 = .ok (.ireturn, 1) := by decide +kernel
theorem dX4_placeOf_22 : decode cX4_placeOf 22 = .ok (.iinc 2 1, 3) := by decide +kernel
theorem dX4_placeOf_25 : decode cX4_placeOf 25 = .ok (.goto (-23), 3) := by decide +kernel
theorem dX4_placeOf_28 : decode cX4_placeOf 28 = .ok (.iconst (-1), 1) := by decide +kernel
theorem dX4_placeOf_29 : decode cX4_placeOf 29 = .ok (.ireturn, 1) := by decide +kernel
theorem dX4_moveDown_0 : decode cX4_moveDown 0 = .ok (.iconst 0, 1) := by decide +kernel
theorem dX4_moveDown_1 : decode cX4_moveDown 1 = .ok (.istore_n 1, 1) := by decide +kernel
theorem dX4_moveDown_2 : decode cX4_moveDown 2 = .ok (.iload_n 1, 1) := by decide +kernel
theorem dX4_moveDown_3 : decode cX4_moveDown 3 = .ok (.iconst 1, 1) := by decide +kernel
theorem dX4_moveDown_4 : decode cX4_moveDown 4 = .ok (.iadd, 1) := by decide +kernel
theorem dX4_moveDown_5 : decode cX4_moveDown 5 = .ok (.aload_n 0, 1) := by decide +kernel
theorem dX4_moveDown_6 : decode cX4_moveDown 6 = .ok (.getfield 101, 3) := by decide +kernel
theorem dX4_moveDown_9 : decode cX4_moveDown 9 = .ok (.if_icmp .ge 67, 3) := by decide +kernel
theorem dX4_moveDown_12 : decode cX4_moveDown 12 = .ok (.aload_n 0, 1) := by decide +kernel
theorem dX4_moveDown_13 : decode cX4_moveDown 13 = .ok (.getfield 35, 3) := by decide +kernel
theorem dX4_moveDown_16 : decode cX4_moveDown 16 = .ok (.iload_n 1, 1) := by decide +kernel
theorem dX4_moveDown_17 : decode cX4_moveDown 17 = .ok (.aload_n 0, 1) := by decide +kernel
theorem dX4_moveDown_18 : decode cX4_moveDown 18 = .ok (.getfield 35, 3) := by decide +kernel
theorem dX4_moveDown_21 : decode cX4_moveDown 21 = .ok (.iload_n 1, 1) := by decide +kernel
theorem dX4_moveDown_22 : decode cX4_moveDown 22 = .ok (.iconst 1, 1) := by decide +kernel
theorem dX4_moveDown_23 : decode cX4_moveDown 23 = .ok (.iadd, 1) := by decide +kernel
theorem dX4_moveDown_24 : decode cX4_moveDown 24 = .ok (.iaload, 1) := by decide +kernel
theorem dX4_moveDown_25 : decode cX4_moveDown 25 = .ok (.iastore, 1) := by decide +kernel
theorem dX4_moveDown_26 : decode cX4_moveDown 26 = .ok (.iconst 0, 1) := by decide +kernel
theorem dX4_moveDown_27 : decode cX4_moveDown 27 = .ok (.istore_n 2, 1) := by decide +kernel
theorem dX4_moveDown_28 : decode cX4_moveDown 28 = .ok (.iload_n 2, 1) := by decide +kernel
theorem dX4_moveDown_29 : decode cX4_moveDown 29 = .ok (.aload_n 0, 1) := by decide +kernel
theorem dX4_moveDown_30 : decode cX4_moveDown 30 = .ok (.getfield 41, 3) := by decide +kernel
theorem dX4_moveDown_33 : decode cX4_moveDown 33 = .ok (.if_icmp .ge 37, 3) := by decide +kernel
theorem dX4_moveDown_36 : decode cX4_moveDown 36 = .ok (.aload_n 0, 1) := by decide +kernel
theorem dX4_moveDown_37 : decode cX4_moveDown 37 = .ok (.getfield 38, 3) := by decide +kernel
theorem dX4_moveDown_40 : decode cX4_moveDown 40 = .ok (.sipush 256, 3) := by decide +kernel
theorem dX4_moveDown_43 : decode cX4_moveDown 43 = .ok (.iload_n 1, 1) := by decide +kernel
theorem dX4_moveDown_44 : decode cX4_moveDown 44 = .ok (.imul, 1) := by decide +kernel
theorem dX4_moveDown_45 : decode cX4_moveDown 45 = .ok (.iload_n 2, 1) := by decide +kernel
theorem dX4_moveDown_46 : decode cX4_moveDown 46 = .ok (.iadd, 1) := by decide +kernel
theorem dX4_moveDown_47 : decode cX4_moveDown 47 = .ok (.aload_n 0, 1) := by decide +kernel
theorem dX4_moveDown_48 : decode cX4_moveDown 48 = .ok (.getfield 38, 3) := by decide +kernel
theorem dX4_moveDown_51 : decode cX4_moveDown 51 = .ok (.sipush 256, 3) := by decide +kernel
theorem dX4_moveDown_54 : decode cX4_moveDown 54 = .ok (.iload_n 1, 1) := by decide +kernel
theorem dX4_moveDown_55 : decode cX4_moveDown 55 = .ok (.imul, 1) := by decide +kernel
theorem dX4_moveDown_56 : decode cX4_moveDown 56 = .ok (.sipush 256, 3) := by decide +kernel
theorem dX4_moveDown_59 : decode cX4_moveDown 59 = .ok (.iadd, 1) := by decide +kernel
theorem dX4_moveDown_60 : decode cX4_moveDown 60 = .ok (.iload_n 2, 1) := by decide +kernel
theorem dX4_moveDown_61 : decode cX4_moveDown 61 = .ok (.iadd, 1) := by decide +kernel
theorem dX4_moveDown_62 : decode cX4_moveDown 62 = .ok (.faload, 1) := by decide +kernel
theorem dX4_moveDown_63 : decode cX4_moveDown 63 = .ok (.fastore, 1) := by decide +kernel
theorem dX4_moveDown_64 : decode cX4_moveDown 64 = .ok (.iinc 2 1, 3) := by decide +kernel
theorem dX4_moveDown_67 : decode cX4_moveDown 67 = .ok (.goto (-39), 3) := by decide +kernel
theorem dX4_moveDown_70 : decode cX4_moveDown 70 = .ok (.iinc 1 1, 3) := by decide +kernel
theorem dX4_moveDown_73 : decode cX4_moveDown 73 = .ok (.goto (-71), 3) := by decide +kernel
theorem dX4_moveDown_76 : decode cX4_moveDown 76 = .ok (.aload_n 0, 1) := by decide +kernel
theorem dX4_moveDown_77 : decode cX4_moveDown 77 = .ok (.dup, 1) := by decide +kernel
theorem dX4_moveDown_78 : decode cX4_moveDown 78 = .ok (.getfield 101, 3) := by decide +kernel
theorem dX4_moveDown_81 : decode cX4_moveDown 81 = .ok (.iconst 1, 1) := by decide +kernel
theorem dX4_moveDown_82 : decode cX4_moveDown 82 = .ok (.isub, 1) := by decide +kernel
theorem dX4_moveDown_83 : decode cX4_moveDown 83 = .ok (.putfield 101, 3) := by decide +kernel
theorem dX4_moveDown_86 : decode cX4_moveDown 86 = .ok (.return_, 1) := by decide +kernel
end
section
set_option maxRecDepth 20000 in
theorem ggX4_keepNow_X4_placeOf : GoodIn wsX4_keepNow wsX4_placeOf := goodIn_r _ [11, 2, 3, 25, 26, 27, 28, 29, 30, 31, 32, 33, 34, 35, 36, 37, 38, 39, 40, 41, 42] (by decide +kernel) (by decide +kernel)
set_option maxRecDepth 20000 in
theorem gX4_keepNow_X4_placeOf : GoodIn wsX4_keepNow (wsV RX4 104 RX4 yX4_placeOf wsX4_placeOf) := goodIn_app (goodIn_of _ (by decide +kernel)) ggX4_keepNow_X4_placeOf
set_option maxRecDepth 20000 in
theorem ggX4_keepNow_X4_moveDown : GoodIn wsX4_keepNow wsX4_moveDown := goodIn_r _ [15, 2, 3, 4, 5, 25, 26, 27, 28, 29, 30, 31, 32, 33, 34, 35, 36, 37, 38, 39, 40, 41, 42] (by decide +kernel) (by decide +kernel)
set_option maxRecDepth 20000 in
theorem gX4_keepNow_X4_moveDown : GoodIn wsX4_keepNow (wsV RX4 107 RX4 yX4_moveDown wsX4_moveDown) := goodIn_app (goodIn_of _ (by decide +kernel)) ggX4_keepNow_X4_moveDown
set_option maxRecDepth 20000 in
theorem ggX4_keepNow_X4_drop : GoodIn wsX4_keepNow wsX4_drop := goodIn_r _ [19, 20, 21, 22, 23, 24, 25, 26, 27, 28, 29, 30, 31, 32, 33, 34, 35, 36, 37, 38, 39, 40, 41, 42] (by decide +kernel) (by decide +kernel)
set_option maxRecDepth 20000 in
theorem gX4_keepNow_X4_drop : GoodIn wsX4_keepNow (wsV RX4 110 RX4 yX4_drop wsX4_drop) := goodIn_app (goodIn_of _ (by decide +kernel)) ggX4_keepNow_X4_drop
theorem dX4_keepNow_0 : decode cX4_keepNow 0 = .ok (.aload_n 0, 1) := by decide +kernel
theorem dX4_keepNow_1 : decode cX4_keepNow 1 = .ok (.aload_n 0, 1) := by decide +kernel
theorem dX4_keepNow_2 : decode cX4_keepNow 2 = .ok (.getfield 62, 3) := by decide +kernel
theorem dX4_keepNow_5 : decode cX4_keepNow 5 = .ok (.invokevirtual 104, 3) := by decide +kernel
theorem dX4_keepNow_8 : decode cX4_keepNow 8 = .ok (.istore_n 1, 1) := by decide +kernel
theorem dX4_keepNow_9 : decode cX4_keepNow 9 = .ok (.iload_n 1, 1) := by decide +kernel
theorem dX4_keepNow_10 : decode cX4_keepNow 10 = .ok (.ifCond .ge 45, 3) := by decide +kernel
theorem dX4_keepNow_13 : decode cX4_keepNow 13 = .ok (.aload_n 0, 1) := by decide +kernel
theorem dX4_keepNow_14 : decode cX4_keepNow 14 = .ok (.getfield 101, 3) := by decide +kernel
theorem dX4_keepNow_17 : decode cX4_keepNow 17 = .ok (.bipush 16, 2) := by decide +kernel
theorem dX4_keepNow_19 : decode cX4_keepNow 19 = .ok (.if_icmp .ne 21, 3) := by decide +kernel
theorem dX4_keepNow_22 : decode cX4_keepNow 22 = .ok (.aload_n 0, 1) := by decide +kernel
theorem dX4_keepNow_23 : decode cX4_keepNow 23 = .ok (.invokevirtual 107, 3) := by decide +kernel
theorem dX4_keepNow_26 : decode cX4_keepNow 26 = .ok (.aload_n 0, 1) := by decide +kernel
theorem dX4_keepNow_27 : decode cX4_keepNow 27 = .ok (.iconst 0, 1) := by decide +kernel
theorem dX4_keepNow_28 : decode cX4_keepNow 28 = .ok (.aload_n 0, 1) := by decide +kernel
theorem dX4_keepNow_29 : decode cX4_keepNow 29 = .ok (.getfield 35, 3) := by decide +kernel
theorem dX4_keepNow_32 : decode cX4_keepNow 32 = .ok (.iconst 0, 1) := by decide +kernel
theorem dX4_keepNow_33 : decode cX4_keepNow 33 = .ok (.iaload, 1) := by decide +kernel
theorem dX4_keepNow_34 : decode cX4_keepNow 34 = .ok (.iconst 1, 1) := by decide +kernel
theorem dX4_keepNow_35 : decode cX4_keepNow 35 = .ok (.isub, 1) := by decide +kernel
theorem dX4_keepNow_36 : decode cX4_keepNow 36 = .ok (.invokevirtual 110, 3) := by decide +kernel
theorem dX4_keepNow_39 : decode cX4_keepNow 39 = .ok (.istore_n 2, 1) := by decide +kernel
theorem dX4_keepNow_40 : decode cX4_keepNow 40 = .ok (.aload_n 0, 1) := by decide +kernel
theorem dX4_keepNow_41 : decode cX4_keepNow 41 = .ok (.getfield 101, 3) := by decide +kernel
theorem dX4_keepNow_44 : decode cX4_keepNow 44 = .ok (.istore_n 1, 1) := by decide +kernel
theorem dX4_keepNow_45 : decode cX4_keepNow 45 = .ok (.aload_n 0, 1) := by decide +kernel
theorem dX4_keepNow_46 : decode cX4_keepNow 46 = .ok (.dup, 1) := by decide +kernel
theorem dX4_keepNow_47 : decode cX4_keepNow 47 = .ok (.getfield 101, 3) := by decide +kernel
theorem dX4_keepNow_50 : decode cX4_keepNow 50 = .ok (.iconst 1, 1) := by decide +kernel
theorem dX4_keepNow_51 : decode cX4_keepNow 51 = .ok (.iadd, 1) := by decide +kernel
theorem dX4_keepNow_52 : decode cX4_keepNow 52 = .ok (.putfield 101, 3) := by decide +kernel
theorem dX4_keepNow_55 : decode cX4_keepNow 55 = .ok (.aload_n 0, 1) := by decide +kernel
theorem dX4_keepNow_56 : decode cX4_keepNow 56 = .ok (.getfield 35, 3) := by decide +kernel
theorem dX4_keepNow_59 : decode cX4_keepNow 59 = .ok (.iload_n 1, 1) := by decide +kernel
theorem dX4_keepNow_60 : decode cX4_keepNow 60 = .ok (.aload_n 0, 1) := by decide +kernel
theorem dX4_keepNow_61 : decode cX4_keepNow 61 = .ok (.getfield 62, 3) := by decide +kernel
theorem dX4_keepNow_64 : decode cX4_keepNow 64 = .ok (.iastore, 1) := by decide +kernel
theorem dX4_keepNow_65 : decode cX4_keepNow 65 = .ok (.iconst 0, 1) := by decide +kernel
theorem dX4_keepNow_66 : decode cX4_keepNow 66 = .ok (.istore_n 2, 1) := by decide +kernel
theorem dX4_keepNow_67 : decode cX4_keepNow 67 = .ok (.iload_n 2, 1) := by decide +kernel
theorem dX4_keepNow_68 : decode cX4_keepNow 68 = .ok (.aload_n 0, 1) := by decide +kernel
theorem dX4_keepNow_69 : decode cX4_keepNow 69 = .ok (.getfield 41, 3) := by decide +kernel
theorem dX4_keepNow_72 : decode cX4_keepNow 72 = .ok (.if_icmp .ge 27, 3) := by decide +kernel
theorem dX4_keepNow_75 : decode cX4_keepNow 75 = .ok (.aload_n 0, 1) := by decide +kernel
theorem dX4_keepNow_76 : decode cX4_keepNow 76 = .ok (.getfield 38, 3) := by decide +kernel
theorem dX4_keepNow_79 : decode cX4_keepNow 79 = .ok (.sipush 256, 3) := by decide +kernel
theorem dX4_keepNow_82 : decode cX4_keepNow 82 = .ok (.iload_n 1, 1) := by decide +kernel
theorem dX4_keepNow_83 : decode cX4_keepNow 83 = .ok (.imul, 1) := by decide +kernel
theorem dX4_keepNow_84 : decode cX4_keepNow 84 = .ok (.iload_n 2, 1) := by decide +kernel
theorem dX4_keepNow_85 : decode cX4_keepNow 85 = .ok (.iadd, 1) := by decide +kernel
theorem dX4_keepNow_86 : decode cX4_keepNow 86 = .ok (.aload_n 0, 1) := by decide +kernel
theorem dX4_keepNow_87 : decode cX4_keepNow 87 = .ok (.getfield 7, 3) := by decide +kernel
theorem dX4_keepNow_90 : decode cX4_keepNow 90 = .ok (.iload_n 2, 1) := by decide +kernel
theorem dX4_keepNow_91 : decode cX4_keepNow 91 = .ok (.faload, 1) := by decide +kernel
theorem dX4_keepNow_92 : decode cX4_keepNow 92 = .ok (.fastore, 1) := by decide +kernel
theorem dX4_keepNow_93 : decode cX4_keepNow 93 = .ok (.iinc 2 1, 3) := by decide +kernel
theorem dX4_keepNow_96 : decode cX4_keepNow 96 = .ok (.goto (-29), 3) := by decide +kernel
theorem dX4_keepNow_99 : decode cX4_keepNow 99 = .ok (.return_, 1) := by decide +kernel
set_option maxRecDepth 20000 in
theorem ggX4_keep_X4_keepNow : GoodIn wsX4_keep wsX4_keepNow := goodIn_r _ [7, 8, 2, 9, 10, 11, 12, 13, 14, 15, 6, 16, 17, 18, 19, 20, 21, 22, 23, 24, 25, 26, 27, 28, 29, 30, 31, 32, 33, 34, 35, 36, 37, 38, 39, 40, 41, 42, 43, 44, 45, 46, 47] (by decide +kernel) (by decide +kernel)
set_option maxRecDepth 20000 in
theorem gX4_keep_X4_keepNow : GoodIn wsX4_keep (wsV RX4 45 RX4 yX4_keepNow wsX4_keepNow) := goodIn_app (goodIn_of _ (by decide +kernel)) ggX4_keep_X4_keepNow
theorem dX4_keep_0 : decode cX4_keep 0 = .ok (.aload_n 0, 1) := by decide +kernel
theorem dX4_keep_1 : decode cX4_keep 1 = .ok (.iconst 0, 1) := by decide +kernel
theorem dX4_keep_2 : decode cX4_keep 2 = .ok (.putfield 48, 3) := by decide +kernel
theorem dX4_keep_5 : decode cX4_keep 5 = .ok (.aload_n 0, 1) := by decide +kernel
theorem dX4_keep_6 : decode cX4_keep 6 = .ok (.invokevirtual 45, 3) := by decide +kernel
theorem dX4_keep_9 : decode cX4_keep 9 = .ok (.aload_n 0, 1) := by decide +kernel
theorem dX4_keep_10 : decode cX4_keep 10 = .ok (.getfield 101, 3) := by decide +kernel
theorem dX4_keep_13 : decode cX4_keep 13 = .ok (.ireturn, 1) := by decide +kernel
theorem dX4_goBack_0 : decode cX4_goBack 0 = .ok (.aload_n 0, 1) := by decide +kernel
theorem dX4_goBack_1 : decode cX4_goBack 1 = .ok (.getfield 101, 3) := by decide +kernel
theorem dX4_goBack_4 : decode cX4_goBack 4 = .ok (.iload_n 1, 1) := by decide +kernel
theorem dX4_goBack_5 : decode cX4_goBack 5 = .ok (.isub, 1) := by decide +kernel
theorem dX4_goBack_6 : decode cX4_goBack 6 = .ok (.iconst 1, 1) := by decide +kernel
theorem dX4_goBack_7 : decode cX4_goBack 7 = .ok (.isub, 1) := by decide +kernel
theorem dX4_goBack_8 : decode cX4_goBack 8 = .ok (.istore_n 2, 1) := by decide +kernel
theorem dX4_goBack_9 : decode cX4_goBack 9 = .ok (.aload_n 0, 1) := by decide +kernel
theorem dX4_goBack_10 : decode cX4_goBack 10 = .ok (.iload_n 1, 1) := by decide +kernel
theorem dX4_goBack_11 : decode cX4_goBack 11 = .ok (.iconst 1, 1) := by decide +kernel
theorem dX4_goBack_12 : decode cX4_goBack 12 = .ok (.iadd, 1) := by decide +kernel
theorem dX4_goBack_13 : decode cX4_goBack 13 = .ok (.putfield 101, 3) := by decide +kernel
theorem dX4_goBack_16 : decode cX4_goBack 16 = .ok (.aload_n 0, 1) := by decide +kernel
theorem dX4_goBack_17 : decode cX4_goBack 17 = .ok (.aload_n 0, 1) := by decide +kernel
theorem dX4_goBack_18 : decode cX4_goBack 18 = .ok (.getfield 35, 3) := by decide +kernel
theorem dX4_goBack_21 : decode cX4_goBack 21 = .ok (.iload_n 1, 1) := by decide +kernel
theorem dX4_goBack_22 : decode cX4_goBack 22 = .ok (.iaload, 1) := by decide +kernel
theorem dX4_goBack_23 : decode cX4_goBack 23 = .ok (.putfield 62, 3) := by decide +kernel
theorem dX4_goBack_26 : decode cX4_goBack 26 = .ok (.iconst 0, 1) := by decide +kernel
theorem dX4_goBack_27 : decode cX4_goBack 27 = .ok (.istore_n 3, 1) := by decide +kernel
theorem dX4_goBack_28 : decode cX4_goBack 28 = .ok (.iload_n 3, 1) := by decide +kernel
theorem dX4_goBack_29 : decode cX4_goBack 29 = .ok (.aload_n 0, 1) := by decide +kernel
theorem dX4_goBack_30 : decode cX4_goBack 30 = .ok (.getfield 41, 3) := by decide +kernel
theorem dX4_goBack_33 : decode cX4_goBack 33 = .ok (.if_icmp .ge 27, 3) := by decide +kernel
theorem dX4_goBack_36 : decode cX4_goBack 36 = .ok (.aload_n 0, 1) := by decide +kernel
theorem dX4_goBack_37 : decode cX4_goBack 37 = .ok (.getfield 7, 3) := by decide +kernel
theorem dX4_goBack_40 : decode cX4_goBack 40 = .ok (.iload_n 3, 1) := by decide +kernel
theorem dX4_goBack_41 : decode cX4_goBack 41 = .ok (.aload_n 0, 1) := by decide +kernel
theorem dX4_goBack_42 : decode cX4_goBack 42 = .ok (.getfield 38, 3) := by decide +kernel
theorem dX4_goBack_45 : decode cX4_goBack 45 = .ok (.sipush 256, 3) := by decide +kernel
theorem dX4_goBack_48 : decode cX4_goBack 48 = .ok (.iload_n 1, 1) := by decide +kernel
theorem dX4_goBack_49 : decode cX4_goBack 49 = .ok (.imul, 1) := by decide +kernel
theorem dX4_goBack_50 : decode cX4_goBack 50 = .ok (.iload_n 3, 1) := by decide +kernel
theorem dX4_goBack_51 : decode cX4_goBack 51 = .ok (.iadd, 1) := by decide +kernel
theorem dX4_goBack_52 : decode cX4_goBack 52 = .ok (.faload, 1) := by decide +kernel
theorem dX4_goBack_53 : decode cX4_goBack 53 = .ok (.fastore, 1) := by decide +kernel
theorem dX4_goBack_54 : decode cX4_goBack 54 = .ok (.iinc 3 1, 3) := by decide +kernel
theorem dX4_goBack_57 : decode cX4_goBack 57 = .ok (.goto (-29), 3) := by decide +kernel
theorem dX4_goBack_60 : decode cX4_goBack 60 = .ok (.iload_n 2, 1) := by decide +kernel
theorem dX4_goBack_61 : decode cX4_goBack 61 = .ok (.ireturn, 1) := by decide +kernel
set_option maxRecDepth 20000 in
theorem ggX4_back_X4_placeOf : GoodIn wsX4_back wsX4_placeOf := goodIn_r _ [5, 6, 7, 21, 22, 23, 24, 25, 26, 27, 28, 29, 30, 31, 32, 33, 34, 35, 36, 37, 38] (by decide +kernel) (by decide +kernel)
set_option maxRecDepth 20000 in
theorem gX4_back_X4_placeOf : GoodIn wsX4_back (wsV RX4 104 RX4 yX4_placeOf wsX4_placeOf) := goodIn_app (goodIn_of _ (by decide +kernel)) ggX4_back_X4_placeOf
set_option maxRecDepth 20000 in
theorem ggX4_back_X4_goes : GoodIn wsX4_back wsX4_goes := goodIn_r _ [11, 12, 21, 22, 23, 24, 25, 26, 27, 28, 29, 30, 31, 32, 33, 34, 35, 36, 37, 38] (by decide +kernel) (by decide +kernel)
set_option maxRecDepth 20000 in
theorem gX4_back_X4_goes : GoodIn wsX4_back (wsV RX4 68 RX4 yX4_goes wsX4_goes) := goodIn_app (goodIn_of _ (by decide +kernel)) ggX4_back_X4_goes
set_option maxRecDepth 20000 in
theorem ggX4_back_X4_goBack : GoodIn wsX4_back wsX4_goBack := goodIn_r _ [16, 6, 7, 17, 18, 19, 20, 21, 22, 23, 24, 25, 26, 27, 28, 29, 30, 31, 32, 33, 34, 35, 36, 37, 38] (by decide +kernel) (by decide +kernel)
set_option maxRecDepth 20000 in
theorem gX4_back_X4_goBack : GoodIn wsX4_back (wsV RX4 114 RX4 yX4_goBack wsX4_goBack) := goodIn_app (goodIn_of _ (by decide +kernel)) ggX4_back_X4_goBack
theorem dX4_back_0 : decode cX4_back 0 = .ok (.aload_n 0, 1) := by decide +kernel
theorem dX4_back_1 : decode cX4_back 1 = .ok (.iload_n 1, 1) := by decide +kernel
theorem dX4_back_2 : decode cX4_back 2 = .ok (.invokevirtual 104, 3) := by decide +kernel
theorem dX4_back_5 : decode cX4_back 5 = .ok (.istore_n 2, 1) := by decide +kernel
theorem dX4_back_6 : decode cX4_back 6 = .ok (.aload_n 0, 1) := by decide +kernel
theorem dX4_back_7 : decode cX4_back 7 = .ok (.iload_n 2, 1) := by decide +kernel
theorem dX4_back_8 : decode cX4_back 8 = .ok (.ifCond .lt 7, 3) := by decide +kernel
theorem dX4_back_11 : decode cX4_back 11 = .ok (.iconst 1, 1) := by decide +kernel
theorem dX4_back_12 : decode cX4_back 12 = .ok (.goto 4, 3) := by decide +kernel
theorem dX4_back_15 : decode cX4_back 15 = .ok (.iconst 0, 1) := by decide +kernel
theorem dX4_back_16 : decode cX4_back 16 = .ok (.iconst 1, 1) := by decide +kernel
theorem dX4_back_17 : decode cX4_back 17 = .ok (.iconst 1, 1) := by decide +kernel
theorem dX4_back_18 : decode cX4_back 18 = .ok (.invokevirtual 68, 3) := by decide +kernel
theorem dX4_back_21 : decode cX4_back 21 = .ok (.ifCond .eq 11, 3) := by decide +kernel
theorem dX4_back_24 : decode cX4_back 24 = .ok (.aload_n 0, 1) := by decide +kernel
theorem dX4_back_25 : decode cX4_back 25 = .ok (.iload_n 2, 1) := by decide +kernel
theorem dX4_back_26 : decode cX4_back 26 = .ok (.invokevirtual 114, 3) := by decide +kernel
theorem dX4_back_29 : decode cX4_back 29 = .ok (.goto 4, 3) := by decide +kernel
theorem dX4_back_32 : decode cX4_back 32 = .ok (.iconst 0, 1) := by decide +kernel
theorem dX4_back_33 : decode cX4_back 33 = .ok (.ireturn, 1) := by decide +kernel
set_option maxRecDepth 20000 in
theorem ggX4_forget_X4_goes : GoodIn wsX4_forget wsX4_goes := goodIn_r _ [7, 8, 18, 19, 20, 21, 22, 23, 24, 25, 26, 27, 28, 29, 30, 31, 32, 33, 34, 35] (by decide +kernel) (by decide +kernel)
set_option maxRecDepth 20000 in
theorem gX4_forget_X4_goes : GoodIn wsX4_forget (wsV RX4 68 RX4 yX4_goes wsX4_goes) := goodIn_app (goodIn_of _ (by decide +kernel)) ggX4_forget_X4_goes
set_option maxRecDepth 20000 in
theorem ggX4_forget_X4_drop : GoodIn wsX4_forget wsX4_drop := goodIn_r _ [12, 13, 14, 15, 16, 17, 18, 19, 20, 21, 22, 23, 24, 25, 26, 27, 28, 29, 30, 31, 32, 33, 34, 35] (by decide +kernel) (by decide +kernel)
set_option maxRecDepth 20000 in
theorem gX4_forget_X4_drop : GoodIn wsX4_forget (wsV RX4 110 RX4 yX4_drop wsX4_drop) := goodIn_app (goodIn_of _ (by decide +kernel)) ggX4_forget_X4_drop
theorem dX4_forget_0 : decode cX4_forget 0 = .ok (.aload_n 0, 1) := by decide +kernel
theorem dX4_forget_1 : decode cX4_forget 1 = .ok (.iload_n 1, 1) := by decide +kernel
theorem dX4_forget_2 : decode cX4_forget 2 = .ok (.aload_n 0, 1) := by decide +kernel
theorem dX4_forget_3 : decode cX4_forget 3 = .ok (.getfield 62, 3) := by decide +kernel
theorem dX4_forget_6 : decode cX4_forget 6 = .ok (.if_icmp .lt 7, 3) := by decide +kernel
theorem dX4_forget_9 : decode cX4_forget 9 = .ok (.iconst 1, 1) := by decide +kernel
theorem dX4_forget_10 : decode cX4_forget 10 = .ok (.goto 4, 3) := by decide +kernel
theorem dX4_forget_13 : decode cX4_forget 13 = .ok (.iconst 0, 1) := by decide +kernel
theorem dX4_forget_14 : decode cX4_forget 14 = .ok (.iconst 1, 1) := by decide +kernel
theorem dX4_forget_15 : decode cX4_forget 15 = .ok (.iconst 1, 1) := by decide +kernel
theorem dX4_forget_16 : decode cX4_forget 16 = .ok (.invokevirtual 68, 3) := by decide +kernel
theorem dX4_forget_19 : decode cX4_forget 19 = .ok (.ifCond .eq 13, 3) := by decide +kernel
theorem dX4_forget_22 : decode cX4_forget 22 = .ok (.aload_n 0, 1) := by decide +kernel
theorem dX4_forget_23 : decode cX4_forget 23 = .ok (.iload_n 1, 1) := by decide +kernel
theorem dX4_forget_24 : decode cX4_forget 24 = .ok (.ldc 117, 2) := by decide +kernel
theorem dX4_forget_26 : decode cX4_forget 26 = .ok (.invokevirtual 110, 3) := by decide +kernel
theorem dX4_forget_29 : decode cX4_forget 29 = .ok (.goto 4, 3) := by decide +kernel
theorem dX4_forget_32 : decode cX4_forget 32 = .ok (.iconst 0, 1) := by decide +kernel
theorem dX4_forget_33 : decode cX4_forget 33 = .ok (.ireturn, 1) := by decide +kernel
theorem dX4_highest_0 : decode cX4_highest 0 = .ok (.iconst (-1), 1) := by decide +kernel
theorem dX4_highest_1 : decode cX4_highest 1 = .ok (.istore_n 2, 1) := by decide +kernel
theorem dX4_highest_2 : decode cX4_highest 2 = .ok (.iconst 0, 1) := by decide +kernel
theorem dX4_highest_3 : decode cX4_highest 3 = .ok (.istore_n 3, 1) := by decide +kernel
theorem dX4_highest_4 : decode cX4_highest 4 = .ok (.iload_n 3, 1) := by decide +kernel
theorem dX4_highest_5 : decode cX4_highest 5 = .ok (.aload_n 0, 1) := by decide +kernel
theorem dX4_highest_6 : decode cX4_highest 6 = .ok (.getfield 101, 3) := by decide +kernel
theorem dX4_highest_9 : decode cX4_highest 9 = .ok (.if_icmp .ge 25, 3) := by decide +kernel
theorem dX4_highest_12 : decode cX4_highest 12 = .ok (.aload_n 0, 1) := by decide +kernel
theorem dX4_highest_13 : decode cX4_highest 13 = .ok (.getfield 35, 3) := by decide +kernel
theorem dX4_highest_16 : decode cX4_highest 16 = .ok (.iload_n 3, 1) := by decide +kernel
theorem dX4_highest_17 : decode cX4_highest 17 = .ok (.iaload, 1) := by decide +kernel
theorem dX4_highest_18 : decode cX4_highest 18 = .ok (.iload_n 1, 1) := by decide +kernel
theorem dX4_highest_19 : decode cX4_highest 19 = .ok (.if_icmp .gt 7, 3) := by decide +kernel
theorem dX4_highest_22 : decode cX4_highest 22 = .ok (.iload_n 3, 1) := by decide +kernel
theorem dX4_highest_23 : decode cX4_highest 23 = .ok (.goto 4, 3) := by decide +kernel
theorem dX4_highest_26 : decode cX4_highest 26 = .ok (.iload_n 2, 1) := by decide +kernel
theorem dX4_highest_27 : decode cX4_highest 27 = .ok (.istore_n 2, 1) := by decide +kernel
theorem dX4_highest_28 : decode cX4_highest 28 = .ok (.iinc 3 1, 3) := by decide +kernel
theorem dX4_highest_31 : decode cX4_highest 31 = .ok (.goto (-27), 3) := by decide +kernel
theorem dX4_highest_34 : decode cX4_highest 34 = .ok (.iload_n 2, 1) := by decide +kernel
theorem dX4_highest_35 : decode cX4_highest 35 = .ok (.ireturn, 1) := by decide +kernel
set_option maxRecDepth 20000 in
theorem ggX4_late_X4_highest : GoodIn wsX4_late wsX4_highest := goodIn_r _ [7, 8, 9, 72, 73, 74, 75, 76, 77, 78, 79, 80, 81, 82, 83, 84, 85, 86, 87, 88, 89] (by decide +kernel) (by decide +kernel)
set_option maxRecDepth 20000 in
theorem gX4_late_X4_highest : GoodIn wsX4_late (wsV RX4 118 RX4 yX4_highest wsX4_highest) := goodIn_app (goodIn_of _ (by decide +kernel)) ggX4_late_X4_highest
set_option maxRecDepth 20000 in
theorem ggX4_late_X4_known : GoodIn wsX4_late wsX4_known := goodIn_r _ [13, 14, 72, 73, 74, 75, 76, 77, 78, 79, 80, 81, 82, 83, 84, 85, 86, 87, 88, 89] (by decide +kernel) (by decide +kernel)
set_option maxRecDepth 20000 in
theorem gX4_late_X4_known : GoodIn wsX4_late (wsV RX4 53 RX4 yX4_known wsX4_known) := goodIn_app (goodIn_of _ (by decide +kernel)) ggX4_late_X4_known
set_option maxRecDepth 20000 in
theorem ggX4_late_X4_within : GoodIn wsX4_late wsX4_within := goodIn_r _ [17, 18, 19] (by decide +kernel) (by decide +kernel)
set_option maxRecDepth 20000 in
theorem gX4_late_X4_within : GoodIn wsX4_late (va_wsS RX4 75 yX4_within wsX4_within) := goodIn_app (goodIn_of _ (by decide +kernel)) ggX4_late_X4_within
set_option maxRecDepth 20000 in
theorem ggX4_late_X4_goes : GoodIn wsX4_late wsX4_goes := goodIn_r _ [23, 24, 72, 73, 74, 75, 76, 77, 78, 79, 80, 81, 82, 83, 84, 85, 86, 87, 88, 89] (by decide +kernel) (by decide +kernel)
set_option maxRecDepth 20000 in
theorem gX4_late_X4_goes : GoodIn wsX4_late (wsV RX4 68 RX4 yX4_goes wsX4_goes) := goodIn_app (goodIn_of _ (by decide +kernel)) ggX4_late_X4_goes
set_option maxRecDepth 20000 in
theorem ggX4_late_X4_put : GoodIn wsX4_late wsX4_put := goodIn_r _ [28, 29, 2, 30, 31, 32, 72, 73, 74, 75, 76, 77, 78, 79, 80, 81, 82, 83, 84, 85, 86, 87, 88, 89] (by decide +kernel) (by decide +kernel)
set_option maxRecDepth 20000 in
theorem gX4_late_X4_put : GoodIn wsX4_late (wsV RX4 79 RX4 yX4_put wsX4_put) := goodIn_app (goodIn_of _ (by decide +kernel)) ggX4_late_X4_put
set_option maxRecDepth 20000 in
theorem ggX4_late_X4_goBack : GoodIn wsX4_late wsX4_goBack := goodIn_r _ [36, 8, 9, 1, 14, 37, 38, 72, 73, 74, 75, 76, 77, 78, 79, 80, 81, 82, 83, 84, 85, 86, 87, 88, 89] (by decide +kernel) (by decide +kernel)
set_option maxRecDepth 20000 in
theorem gX4_late_X4_goBack : GoodIn wsX4_late (wsV RX4 114 RX4 yX4_goBack wsX4_goBack) := goodIn_app (goodIn_of _ (by decide +kernel)) ggX4_late_X4_goBack
set_option maxRecDepth 20000 in
theorem ggX4_late_X4_once : GoodIn wsX4_late wsX4_once := goodIn_r _ [42, 2, 29, 1, 43, 37, 44, 45, 46, 47, 48, 49, 50, 51, 6, 52, 30, 31, 32, 53, 54, 55, 18, 19, 56, 57, 58, 59, 8, 9, 14, 38, 60, 61, 62, 63, 64, 65, 66, 67, 68, 69, 70, 71, 72, 73, 74, 75, 76, 77, 78, 79, 80, 81, 82, 83, 84, 85, 86, 87, 88, 89] (by decide +kernel) (by decide +kernel)
set_option maxRecDepth 20000 in
theorem gX4_late_X4_once : GoodIn wsX4_late (wsV RX4 98 RX4 yX4_once wsX4_once) := goodIn_app (goodIn_of _ (by decide +kernel)) ggX4_late_X4_once
theorem dX4_late_0 : decode cX4_late 0 = .ok (.iload_n 1, 1) := by decide +kernel
theorem dX4_late_1 : decode cX4_late 1 = .ok (.ifCond .lt 15, 3) := by decide +kernel
theorem dX4_late_4 : decode cX4_late 4 = .ok (.iload_n 1, 1) := by decide +kernel
theorem dX4_late_5 : decode cX4_late 5 = .ok (.aload_n 0, 1) := by decide +kernel
theorem dX4_late_6 : decode cX4_late 6 = .ok (.getfield 62, 3) := by decide +kernel
theorem dX4_late_9 : decode cX4_late 9 = .ok (.if_icmp .gt 7, 3) := by decide +kernel
theorem dX4_late_12 : decode cX4_late 12 = .ok (.iconst 1, 1) := by decide +kernel
theorem dX4_late_13 : decode cX4_late 13 = .ok (.goto 4, 3) := by decide +kernel
theorem dX4_late_16 : decode cX4_late 16 = .ok (.iconst 0, 1) := by decide +kernel
theorem dX4_late_17 : decode cX4_late 17 = .ok (.istore 5, 2) := by decide +kernel
theorem dX4_late_19 : decode cX4_late 19 = .ok (.aload_n 0, 1) := by decide +kernel
theorem dX4_late_20 : decode cX4_late 20 = .ok (.iload_n 1, 1) := by decide +kernel
theorem dX4_late_21 : decode cX4_late 21 = .ok (.invokevirtual 118, 3) := by decide +kernel
theorem dX4_late_24 : decode cX4_late 24 = .ok (.istore 6, 2) := by decide +kernel
theorem dX4_late_26 : decode cX4_late 26 = .ok (.aload_n 0, 1) := by decide +kernel
theorem dX4_late_27 : decode cX4_late 27 = .ok (.aload_n 0, 1) := by decide +kernel
theorem dX4_late_28 : decode cX4_late 28 = .ok (.iload_n 2, 1) := by decide +kernel
theorem dX4_late_29 : decode cX4_late 29 = .ok (.invokevirtual 53, 3) := by decide +kernel
theorem dX4_late_32 : decode cX4_late 32 = .ok (.iload_n 3, 1) := by decide +kernel
theorem dX4_late_33 : decode cX4_late 33 = .ok (.ifCond .lt 25, 3) := by decide +kernel
theorem dX4_late_36 : decode cX4_late 36 = .ok (.iload_n 3, 1) := by decide +kernel
theorem dX4_late_37 : decode cX4_late 37 = .ok (.iconst 2, 1) := by decide +kernel
theorem dX4_late_38 : decode cX4_late 38 = .ok (.if_icmp .gt 20, 3) := by decide +kernel
theorem dX4_late_41 : decode cX4_late 41 = .ok (.fload 4, 2) := by decide +kernel
theorem dX4_late_43 : decode cX4_late 43 = .ok (.invokestatic 75, 3) := by decide +kernel
theorem dX4_late_46 : decode cX4_late 46 = .ok (.ifCond .eq 12, 3) := by decide +kernel
theorem dX4_late_49 : decode cX4_late 49 = .ok (.iload 5, 2) := by decide +kernel
theorem dX4_late_51 : decode cX4_late 51 = .ok (.ifCond .eq 7, 3) := by decide +kernel
theorem dX4_late_54 : decode cX4_late 54 = .ok (.iconst 1, 1) := by decide +kernel
theorem dX4_late_55 : decode cX4_late 55 = .ok (.goto 4, 3) := by decide +kernel
theorem dX4_late_58 : decode cX4_late 58 = .ok (.iconst 0, 1) := by decide +kernel
theorem dX4_late_59 : decode cX4_late 59 = .ok (.aload_n 0, 1) := by decide +kernel
theorem dX4_late_60 : decode cX4_late 60 = .ok (.getfield 65, 3) := by decide +kernel
theorem dX4_late_63 : decode cX4_late 63 = .ok (.sipush 512, 3) := by decide +kernel
theorem dX4_late_66 : decode cX4_late 66 = .ok (.if_icmp .ge 20, 3) := by decide +kernel
theorem dX4_late_69 : decode cX4_late 69 = .ok (.iload_n 1, 1) := by decide +kernel
theorem dX4_late_70 : decode cX4_late 70 = .ok (.aload_n 0, 1) := by decide +kernel
theorem dX4_late_71 : decode cX4_late 71 = .ok (.getfield 62, 3) := by decide +kernel
theorem dX4_late_74 : decode cX4_late 74 = .ok (.if_icmp .eq 8, 3) := by decide +kernel
theorem dX4_late_77 : decode cX4_late 77 = .ok (.iload 6, 2) := by decide +kernel
theorem dX4_late_79 : decode cX4_late 79 = .ok (.ifCond .lt 7, 3) := by decide +kernel
theorem dX4_late_82 : decode cX4_late 82 = .ok (.iconst 1, 1) := by decide +kernel
theorem dX4_late_83 : decode cX4_late 83 = .ok (.goto 4, 3) := by decide +kernel
theorem dX4_late_86 : decode cX4_late 86 = .ok (.iconst 0, 1) := by decide +kernel
theorem dX4_late_87 : decode cX4_late 87 = .ok (.invokevirtual 68, 3) := by decide +kernel
theorem dX4_late_90 : decode cX4_late 90 = .ok (.ifCond .ne 5, 3) := by decide +kernel
theorem dX4_late_93 : decode cX4_late 93 = .ok (.iconst 0, 1) := by decide +kernel
theorem dX4_late_94 : decode cX4_late 94 = .ok (.ireturn, 1) := by decide +kernel
theorem dX4_late_95 : decode cX4_late 95 = .ok (.aload_n 0, 1) := by decide +kernel
theorem dX4_late_96 : decode cX4_late 96 = .ok (.iload_n 1, 1) := by decide +kernel
theorem dX4_late_97 : decode cX4_late 97 = .ok (.iload_n 2, 1) := by decide +kernel
theorem dX4_late_98 : decode cX4_late 98 = .ok (.iload_n 3, 1) := by decide +kernel
theorem dX4_late_99 : decode cX4_late 99 = .ok (.fload 4, 2) := by decide +kernel
theorem dX4_late_101 : decode cX4_late 101 = .ok (.invokevirtual 79, 3) := by decide +kernel
theorem dX4_late_104 : decode cX4_late 104 = .ok (.iload_n 1, 1) := by decide +kernel
theorem dX4_late_105 : decode cX4_late 105 = .ok (.aload_n 0, 1) := by decide +kernel
theorem dX4_late_106 : decode cX4_late 106 = .ok (.getfield 62, 3) := by decide +kernel
theorem dX4_late_109 : decode cX4_late 109 = .ok (.if_icmp .ne 5, 3) := by decide +kernel
theorem dX4_late_112 : decode cX4_late 112 = .ok (.iconst 0, 1) := by decide +kernel
theorem dX4_late_113 : decode cX4_late 113 = .ok (.ireturn, 1) := by decide +kernel
theorem dX4_late_114 : decode cX4_late 114 = .ok (.aload_n 0, 1) := by decide +kernel
theorem dX4_late_115 : decode cX4_late 115 = .ok (.getfield 62, 3) := by decide +kernel
theorem dX4_late_118 : decode cX4_late 118 = .ok (.istore 7, 2) := by decide +kernel
theorem dX4_late_120 : decode cX4_late 120 = .ok (.aload_n 0, 1) := by decide +kernel
theorem dX4_late_121 : decode cX4_late 121 = .ok (.iload 6, 2) := by decide +kernel
theorem dX4_late_123 : decode cX4_late 123 = .ok (.invokevirtual 114, 3) := by decide +kernel
theorem dX4_late_126 : decode cX4_late 126 = .ok (.istore 8, 2) := by decide +kernel
theorem dX4_late_128 : decode cX4_late 128 = .ok (.iload 7, 2) := by decide +kernel
theorem dX4_late_130 : decode cX4_late 130 = .ok (.aload_n 0, 1) := by decide +kernel
theorem dX4_late_131 : decode cX4_late 131 = .ok (.getfield 62, 3) := by decide +kernel
theorem dX4_late_134 : decode cX4_late 134 = .ok (.isub, 1) := by decide +kernel
theorem dX4_late_135 : decode cX4_late 135 = .ok (.istore 9, 2) := by decide +kernel
theorem dX4_late_137 : decode cX4_late 137 = .ok (.iconst 0, 1) := by decide +kernel
theorem dX4_late_138 : decode cX4_late 138 = .ok (.istore 10, 2) := by decide +kernel
theorem dX4_late_140 : decode cX4_late 140 = .ok (.iload 10, 2) := by decide +kernel
theorem dX4_late_142 : decode cX4_late 142 = .ok (.iload 9, 2) := by decide +kernel
theorem dX4_late_144 : decode cX4_late 144 = .ok (.if_icmp .ge 13, 3) := by decide +kernel
theorem dX4_late_147 : decode cX4_late 147 = .ok (.aload_n 0, 1) := by decide +kernel
theorem dX4_late_148 : decode cX4_late 148 = .ok (.invokevirtual 98, 3) := by decide +kernel
theorem dX4_late_151 : decode cX4_late 151 = .ok (.iinc 10 1, 3) := by decide +kernel
theorem dX4_late_154 : decode cX4_late 154 = .ok (.goto (-14), 3) := by decide +kernel
theorem dX4_late_157 : decode cX4_late 157 = .ok (.iload 9, 2) := by decide +kernel
theorem dX4_late_159 : decode cX4_late 159 = .ok (.ireturn, 1) := by decide +kernel
set_option maxRecDepth 20000 in
theorem ggX4_cell_X4_known : GoodIn wsX4_cell wsX4_known := goodIn_r _ [6, 7, 13, 14, 15, 16, 17, 18, 19, 20, 21, 22, 23, 24, 25, 26, 27, 28, 29, 30] (by decide +kernel) (by decide +kernel)
set_option maxRecDepth 20000 in
theorem gX4_cell_X4_known : GoodIn wsX4_cell (wsV RX4 53 RX4 yX4_known wsX4_known) := goodIn_app (goodIn_of _ (by decide +kernel)) ggX4_cell_X4_known
set_option maxRecDepth 20000 in
theorem ggX4_cell_X4_goes : GoodIn wsX4_cell wsX4_goes := goodIn_r _ [11, 12, 13, 14, 15, 16, 17, 18, 19, 20, 21, 22, 23, 24, 25, 26, 27, 28, 29, 30] (by decide +kernel) (by decide +kernel)
set_option maxRecDepth 20000 in
theorem gX4_cell_X4_goes : GoodIn wsX4_cell (wsV RX4 68 RX4 yX4_goes wsX4_goes) := goodIn_app (goodIn_of _ (by decide +kernel)) ggX4_cell_X4_goes
theorem dX4_cell_0 : decode cX4_cell 0 = .ok (.aload_n 0, 1) := by decide +kernel
theorem dX4_cell_1 : decode cX4_cell 1 = .ok (.aload_n 0, 1) := by decide +kernel
theorem dX4_cell_2 : decode cX4_cell 2 = .ok (.iload_n 1, 1) := by decide +kernel
theorem dX4_cell_3 : decode cX4_cell 3 = .ok (.invokevirtual 53, 3) := by decide +kernel
theorem dX4_cell_6 : decode cX4_cell 6 = .ok (.iconst 1, 1) := by decide +kernel
theorem dX4_cell_7 : decode cX4_cell 7 = .ok (.iconst 1, 1) := by decide +kernel
theorem dX4_cell_8 : decode cX4_cell 8 = .ok (.invokevirtual 68, 3) := by decide +kernel
theorem dX4_cell_11 : decode cX4_cell 11 = .ok (.ifCond .eq 12, 3) := by decide +kernel
theorem dX4_cell_14 : decode cX4_cell 14 = .ok (.aload_n 0, 1) := by decide +kernel
theorem dX4_cell_15 : decode cX4_cell 15 = .ok (.getfield 7, 3) := by decide +kernel
theorem dX4_cell_18 : decode cX4_cell 18 = .ok (.iload_n 1, 1) := by decide +kernel
theorem dX4_cell_19 : decode cX4_cell 19 = .ok (.faload, 1) := by decide +kernel
theorem dX4_cell_20 : decode cX4_cell 20 = .ok (.goto 4, 3) := by decide +kernel
theorem dX4_cell_23 : decode cX4_cell 23 = .ok (.fconst 0, 1) := by decide +kernel
theorem dX4_cell_24 : decode cX4_cell 24 = .ok (.freturn, 1) := by decide +kernel
set_option maxRecDepth 20000 in
theorem ggX4_kept_X4_placeOf : GoodIn wsX4_kept wsX4_placeOf := goodIn_r _ [6, 7, 8, 19, 20, 21, 22, 23, 24, 25, 26, 27, 28, 29, 30, 31, 32, 33, 34, 35, 36] (by decide +kernel) (by decide +kernel)
set_option maxRecDepth 20000 in
theorem gX4_kept_X4_placeOf : GoodIn wsX4_kept (wsV RX4 104 RX4 yX4_placeOf wsX4_placeOf) := goodIn_app (goodIn_of _ (by decide +kernel)) ggX4_kept_X4_placeOf
set_option maxRecDepth 20000 in
theorem ggX4_kept_X4_known : GoodIn wsX4_kept wsX4_known := goodIn_r _ [12, 13, 19, 20, 21, 22, 23, 24, 25, 26, 27, 28, 29, 30, 31, 32, 33, 34, 35, 36] (by decide +kernel) (by decide +kernel)
set_option maxRecDepth 20000 in
theorem gX4_kept_X4_known : GoodIn wsX4_kept (wsV RX4 53 RX4 yX4_known wsX4_known) := goodIn_app (goodIn_of _ (by decide +kernel)) ggX4_kept_X4_known
set_option maxRecDepth 20000 in
theorem ggX4_kept_X4_goes : GoodIn wsX4_kept wsX4_goes := goodIn_r _ [17, 18, 19, 20, 21, 22, 23, 24, 25, 26, 27, 28, 29, 30, 31, 32, 33, 34, 35, 36] (by decide +kernel) (by decide +kernel)
set_option maxRecDepth 20000 in
theorem gX4_kept_X4_goes : GoodIn wsX4_kept (wsV RX4 68 RX4 yX4_goes wsX4_goes) := goodIn_app (goodIn_of _ (by decide +kernel)) ggX4_kept_X4_goes
theorem dX4_kept_0 : decode cX4_kept 0 = .ok (.aload_n 0, 1) := by decide +kernel
theorem dX4_kept_1 : decode cX4_kept 1 = .ok (.iload_n 1, 1) := by decide +kernel
theorem dX4_kept_2 : decode cX4_kept 2 = .ok (.invokevirtual 104, 3) := by decide +kernel
theorem dX4_kept_5 : decode cX4_kept 5 = .ok (.istore_n 3, 1) := by decide +kernel
theorem dX4_kept_6 : decode cX4_kept 6 = .ok (.aload_n 0, 1) := by decide +kernel
theorem dX4_kept_7 : decode cX4_kept 7 = .ok (.iload_n 3, 1) := by decide +kernel
theorem dX4_kept_8 : decode cX4_kept 8 = .ok (.ifCond .lt 15, 3) := by decide +kernel
theorem dX4_kept_11 : decode cX4_kept 11 = .ok (.aload_n 0, 1) := by decide +kernel
theorem dX4_kept_12 : decode cX4_kept 12 = .ok (.iload_n 2, 1) := by decide +kernel
theorem dX4_kept_13 : decode cX4_kept 13 = .ok (.invokevirtual 53, 3) := by decide +kernel
theorem dX4_kept_16 : decode cX4_kept 16 = .ok (.ifCond .eq 7, 3) := by decide +kernel
theorem dX4_kept_19 : decode cX4_kept 19 = .ok (.iconst 1, 1) := by decide +kernel
theorem dX4_kept_20 : decode cX4_kept 20 = .ok (.goto 4, 3) := by decide +kernel
theorem dX4_kept_23 : decode cX4_kept 23 = .ok (.iconst 0, 1) := by decide +kernel
theorem dX4_kept_24 : decode cX4_kept 24 = .ok (.iconst 1, 1) := by decide +kernel
theorem dX4_kept_25 : decode cX4_kept 25 = .ok (.iconst 1, 1) := by decide +kernel
theorem dX4_kept_26 : decode cX4_kept 26 = .ok (.invokevirtual 68, 3) := by decide +kernel
theorem dX4_kept_29 : decode cX4_kept 29 = .ok (.ifCond .eq 18, 3) := by decide +kernel
theorem dX4_kept_32 : decode cX4_kept 32 = .ok (.aload_n 0, 1) := by decide +kernel
theorem dX4_kept_33 : decode cX4_kept 33 = .ok (.getfield 38, 3) := by decide +kernel
theorem dX4_kept_36 : decode cX4_kept 36 = .ok (.sipush 256, 3) := by decide +kernel
theorem dX4_kept_39 : decode cX4_kept 39 = .ok (.iload_n 3, 1) := by decide +kernel
theorem dX4_kept_40 : decode cX4_kept 40 = .ok (.imul, 1) := by decide +kernel
theorem dX4_kept_41 : decode cX4_kept 41 = .ok (.iload_n 2, 1) := by decide +kernel
theorem dX4_kept_42 : decode cX4_kept 42 = .ok (.iadd, 1) := by decide +kernel
theorem dX4_kept_43 : decode cX4_kept 43 = .ok (.faload, 1) := by decide +kernel
theorem dX4_kept_44 : decode cX4_kept 44 = .ok (.goto 4, 3) := by decide +kernel
theorem dX4_kept_47 : decode cX4_kept 47 = .ok (.fconst 0, 1) := by decide +kernel
theorem dX4_kept_48 : decode cX4_kept 48 = .ok (.freturn, 1) := by decide +kernel
set_option maxRecDepth 20000 in
theorem ggX4_differs_X4_placeOf : GoodIn wsX4_differs wsX4_placeOf := goodIn_r _ [8, 9, 10, 16, 17, 18, 19, 20, 21, 22, 23, 24, 25, 26, 27, 28, 29, 30, 31, 32, 33] (by decide +kernel) (by decide +kernel)
set_option maxRecDepth 20000 in
theorem gX4_differs_X4_placeOf : GoodIn wsX4_differs (wsV RX4 104 RX4 yX4_placeOf wsX4_placeOf) := goodIn_app (goodIn_of _ (by decide +kernel)) ggX4_differs_X4_placeOf
set_option maxRecDepth 20000 in
theorem ggX4_differs_X4_goes : GoodIn wsX4_differs wsX4_goes := goodIn_r _ [14, 15, 16, 17, 18, 19, 20, 21, 22, 23, 24, 25, 26, 27, 28, 29, 30, 31, 32, 33] (by decide +kernel) (by decide +kernel)
set_option maxRecDepth 20000 in
theorem gX4_differs_X4_goes : GoodIn wsX4_differs (wsV RX4 68 RX4 yX4_goes wsX4_goes) := goodIn_app (goodIn_of _ (by decide +kernel)) ggX4_differs_X4_goes
theorem dX4_differs_0 : decode cX4_differs 0 = .ok (.aload_n 0, 1) := by decide +kernel
theorem dX4_differs_1 : decode cX4_differs 1 = .ok (.iload_n 1, 1) := by decide +kernel
theorem dX4_differs_2 : decode cX4_differs 2 = .ok (.invokevirtual 104, 3) := by decide +kernel
theorem dX4_differs_5 : decode cX4_differs 5 = .ok (.istore_n 2, 1) := by decide +kernel
theorem dX4_differs_6 : decode cX4_differs 6 = .ok (.aload_n 0, 1) := by decide +kernel
theorem dX4_differs_7 : decode cX4_differs 7 = .ok (.iload_n 2, 1) := by decide +kernel
theorem dX4_differs_8 : decode cX4_differs 8 = .ok (.ifCond .lt 7, 3) := by decide +kernel
theorem dX4_differs_11 : decode cX4_differs 11 = .ok (.iconst 1, 1) := by decide +kernel
theorem dX4_differs_12 : decode cX4_differs 12 = .ok (.goto 4, 3) := by decide +kernel
theorem dX4_differs_15 : decode cX4_differs 15 = .ok (.iconst 0, 1) := by decide +kernel
theorem dX4_differs_16 : decode cX4_differs 16 = .ok (.iconst 1, 1) := by decide +kernel
theorem dX4_differs_17 : decode cX4_differs 17 = .ok (.iconst 1, 1) := by decide +kernel
theorem dX4_differs_18 : decode cX4_differs 18 = .ok (.invokevirtual 68, 3) := by decide +kernel
theorem dX4_differs_21 : decode cX4_differs 21 = .ok (.ifCond .ne 5, 3) := by decide +kernel
theorem dX4_differs_24 : decode cX4_differs 24 = .ok (.iconst 0, 1) := by decide +kernel
theorem dX4_differs_25 : decode cX4_differs 25 = .ok (.ireturn, 1) := by decide +kernel
theorem dX4_differs_26 : decode cX4_differs 26 = .ok (.iconst 0, 1) := by decide +kernel
theorem dX4_differs_27 : decode cX4_differs 27 = .ok (.istore_n 3, 1) := by decide +kernel
theorem dX4_differs_28 : decode cX4_differs 28 = .ok (.iload_n 3, 1) := by decide +kernel
theorem dX4_differs_29 : decode cX4_differs 29 = .ok (.aload_n 0, 1) := by decide +kernel
theorem dX4_differs_30 : decode cX4_differs 30 = .ok (.getfield 41, 3) := by decide +kernel
theorem dX4_differs_33 : decode cX4_differs 33 = .ok (.if_icmp .ge 33, 3) := by decide +kernel
theorem dX4_differs_36 : decode cX4_differs 36 = .ok (.aload_n 0, 1) := by decide +kernel
theorem dX4_differs_37 : decode cX4_differs 37 = .ok (.getfield 7, 3) := by decide +kernel
theorem dX4_differs_40 : decode cX4_differs 40 = .ok (.iload_n 3, 1) := by decide +kernel
theorem dX4_differs_41 : decode cX4_differs 41 = .ok (.faload, 1) := by decide +kernel
theorem dX4_differs_42 : decode cX4_differs 42 = .ok (.aload_n 0, 1) := by decide +kernel
theorem dX4_differs_43 : decode cX4_differs 43 = .ok (.getfield 38, 3) := by decide +kernel
theorem dX4_differs_46 : decode cX4_differs 46 = .ok (.sipush 256, 3) := by decide +kernel
theorem dX4_differs_49 : decode cX4_differs 49 = .ok (.iload_n 2, 1) := by decide +kernel
theorem dX4_differs_50 : decode cX4_differs 50 = .ok (.imul, 1) := by decide +kernel
theorem dX4_differs_51 : decode cX4_differs 51 = .ok (.iload_n 3, 1) := by decide +kernel
theorem dX4_differs_52 : decode cX4_differs 52 = .ok (.iadd, 1) := by decide +kernel
theorem dX4_differs_53 : decode cX4_differs 53 = .ok (.faload, 1) := by decide +kernel
theorem dX4_differs_54 : decode cX4_differs 54 = .ok (.fcmp .l, 1) := by decide +kernel
theorem dX4_differs_55 : decode cX4_differs 55 = .ok (.ifCond .eq 5, 3) := by decide +kernel
theorem dX4_differs_58 : decode cX4_differs 58 = .ok (.iload_n 3, 1) := by decide +kernel
theorem dX4_differs_59 : decode cX4_differs 59 = .ok (.ireturn, 1) := by decide +kernel
theorem dX4_differs_60 : decode cX4_differs 60 = .ok (.iinc 3 1, 3) := by decide +kernel
theorem dX4_differs_63 : decode cX4_differs 63 = .ok (.goto (-35), 3) := by decide +kernel
theorem dX4_differs_66 : decode cX4_differs 66 = .ok (.iconst (-1), 1) := by decide +kernel
theorem dX4_differs_67 : decode cX4_differs 67 = .ok (.ireturn, 1) := by decide +kernel
set_option maxRecDepth 20000 in
theorem ggX4_snapshot_X4_goes : GoodIn wsX4_snapshot wsX4_goes := goodIn_r _ [7, 8, 9, 10, 11, 12, 13, 14, 15, 16, 17, 18, 19, 20, 21, 22, 23, 24, 25, 26] (by decide +kernel) (by decide +kernel)
set_option maxRecDepth 20000 in
theorem gX4_snapshot_X4_goes : GoodIn wsX4_snapshot (wsV RX4 68 RX4 yX4_goes wsX4_goes) := goodIn_app (goodIn_of _ (by decide +kernel)) ggX4_snapshot_X4_goes
theorem dX4_snapshot_0 : decode cX4_snapshot 0 = .ok (.aload_n 0, 1) := by decide +kernel
theorem dX4_snapshot_1 : decode cX4_snapshot 1 = .ok (.iload_n 1, 1) := by decide +kernel
theorem dX4_snapshot_2 : decode cX4_snapshot 2 = .ok (.ifCond .lt 15, 3) := by decide +kernel
theorem dX4_snapshot_5 : decode cX4_snapshot 5 = .ok (.iload_n 1, 1) := by decide +kernel
theorem dX4_snapshot_6 : decode cX4_snapshot 6 = .ok (.aload_n 0, 1) := by decide +kernel
theorem dX4_snapshot_7 : decode cX4_snapshot 7 = .ok (.getfield 101, 3) := by decide +kernel
theorem dX4_snapshot_10 : decode cX4_snapshot 10 = .ok (.if_icmp .ge 7, 3) := by decide +kernel
theorem dX4_snapshot_13 : decode cX4_snapshot 13 = .ok (.iconst 1, 1) := by decide +kernel
theorem dX4_snapshot_14 : decode cX4_snapshot 14 = .ok (.goto 4, 3) := by decide +kernel
theorem dX4_snapshot_17 : decode cX4_snapshot 17 = .ok (.iconst 0, 1) := by decide +kernel
theorem dX4_snapshot_18 : decode cX4_snapshot 18 = .ok (.iconst 1, 1) := by decide +kernel
theorem dX4_snapshot_19 : decode cX4_snapshot 19 = .ok (.iconst 1, 1) := by decide +kernel
theorem dX4_snapshot_20 : decode cX4_snapshot 20 = .ok (.invokevirtual 68, 3) := by decide +kernel
theorem dX4_snapshot_23 : decode cX4_snapshot 23 = .ok (.ifCond .eq 12, 3) := by decide +kernel
theorem dX4_snapshot_26 : decode cX4_snapshot 26 = .ok (.aload_n 0, 1) := by decide +kernel
theorem dX4_snapshot_27 : decode cX4_snapshot 27 = .ok (.getfield 35, 3) := by decide +kernel
theorem dX4_snapshot_30 : decode cX4_snapshot 30 = .ok (.iload_n 1, 1) := by decide +kernel
theorem dX4_snapshot_31 : decode cX4_snapshot 31 = .ok (.iaload, 1) := by decide +kernel
theorem dX4_snapshot_32 : decode cX4_snapshot 32 = .ok (.goto 4, 3) := by decide +kernel
theorem dX4_snapshot_35 : decode cX4_snapshot 35 = .ok (.iconst 0, 1) := by decide +kernel
theorem dX4_snapshot_36 : decode cX4_snapshot 36 = .ok (.ireturn, 1) := by decide +kernel
theorem dX4_find_0 : decode cX4_find 0 = .ok (.iload_n 2, 1) := by decide +kernel
theorem dX4_find_1 : decode cX4_find 1 = .ok (.istore_n 3, 1) := by decide +kernel
theorem dX4_find_2 : decode cX4_find 2 = .ok (.iconst 0, 1) := by decide +kernel
theorem dX4_find_3 : decode cX4_find 3 = .ok (.istore 4, 2) := by decide +kernel
theorem dX4_find_5 : decode cX4_find 5 = .ok (.iload 4, 2) := by decide +kernel
theorem dX4_find_7 : decode cX4_find 7 = .ok (.aload_n 0, 1) := by decide +kernel
theorem dX4_find_8 : decode cX4_find 8 = .ok (.getfield 65, 3) := by decide +kernel
theorem dX4_find_11 : decode cX4_find 11 = .ok (.if_icmp .ge 39, 3) := by decide +kernel
theorem dX4_find_14 : decode cX4_find 14 = .ok (.iload_n 2, 1) := by decide +kernel
theorem dX4_find_15 : decode cX4_find 15 = .ok (.ifCond .lt 35, 3) := by decide +kernel
theorem dX4_find_18 : decode cX4_find 18 = .ok (.aload_n 0, 1) := by decide +kernel
theorem dX4_find_19 : decode cX4_find 19 = .ok (.getfield 23, 3) := by decide +kernel
theorem dX4_find_22 : decode cX4_find 22 = .ok (.iload 4, 2) := by decide +kernel
theorem dX4_find_24 : decode cX4_find 24 = .ok (.iaload, 1) := by decide +kernel
theorem dX4_find_25 : decode cX4_find 25 = .ok (.iload_n 1, 1) := by decide +kernel
theorem dX4_find_26 : decode cX4_find 26 = .ok (.if_icmp .ne 9, 3) := by decide +kernel
theorem dX4_find_29 : decode cX4_find 29 = .ok (.iload_n 3, 1) := by decide +kernel
theorem dX4_find_30 : decode cX4_find 30 = .ok (.iconst 1, 1) := by decide +kernel
theorem dX4_find_31 : decode cX4_find 31 = .ok (.isub, 1) := by decide +kernel
theorem dX4_find_32 : decode cX4_find 32 = .ok (.goto 4, 3) := by decide +kernel
theorem dX4_find_35 : decode cX4_find 35 = .ok (.iload_n 3, 1) := by decide +kernel
theorem dX4_find_36 : decode cX4_find 36 = .ok (.istore_n 3, 1) := by decide +kernel
theorem dX4_find_37 : decode cX4_find 37 = .ok (.iload_n 3, 1) := by decide +kernel
theorem dX4_find_38 : decode cX4_find 38 = .ok (.ifCond .ge 6, 3) := by decide +kernel
theorem dX4_find_41 : decode cX4_find 41 = .ok (.iload 4, 2) := by decide +kernel
theorem dX4_find_43 : decode cX4_find 43 = .ok (.ireturn, 1) := by decide +kernel
theorem dX4_find_44 : decode cX4_find 44 = .ok (.iinc 4 1, 3) := by decide +kernel
theorem dX4_find_47 : decode cX4_find 47 = .ok (.goto (-42), 3) := by decide +kernel
theorem dX4_find_50 : decode cX4_find 50 = .ok (.iconst (-1), 1) := by decide +kernel
theorem dX4_find_51 : decode cX4_find 51 = .ok (.ireturn, 1) := by decide +kernel
set_option maxRecDepth 20000 in
theorem ggX4_record_X4_find : GoodIn wsX4_record wsX4_find := goodIn_r _ [7, 8, 9, 15, 16, 17, 18, 19, 20, 21, 22, 23, 24, 25, 26, 27, 28, 29, 30, 31, 32] (by decide +kernel) (by decide +kernel)
set_option maxRecDepth 20000 in
theorem gX4_record_X4_find : GoodIn wsX4_record (wsV RX4 121 RX4 yX4_find wsX4_find) := goodIn_app (goodIn_of _ (by decide +kernel)) ggX4_record_X4_find
set_option maxRecDepth 20000 in
theorem ggX4_record_X4_goes : GoodIn wsX4_record wsX4_goes := goodIn_r _ [13, 14, 15, 16, 17, 18, 19, 20, 21, 22, 23, 24, 25, 26, 27, 28, 29, 30, 31, 32] (by decide +kernel) (by decide +kernel)
set_option maxRecDepth 20000 in
theorem gX4_record_X4_goes : GoodIn wsX4_record (wsV RX4 68 RX4 yX4_goes wsX4_goes) := goodIn_app (goodIn_of _ (by decide +kernel)) ggX4_record_X4_goes
theorem dX4_record_0 : decode cX4_record 0 = .ok (.aload_n 0, 1) := by decide +kernel
theorem dX4_record_1 : decode cX4_record 1 = .ok (.iload_n 1, 1) := by decide +kernel
theorem dX4_record_2 : decode cX4_record 2 = .ok (.iload_n 2, 1) := by decide +kernel
theorem dX4_record_3 : decode cX4_record 3 = .ok (.invokevirtual 121, 3) := by decide +kernel
theorem dX4_record_6 : decode cX4_record 6 = .ok (.istore 4, 2) := by decide +kernel
theorem dX4_record_8 : decode cX4_record 8 = .ok (.aload_n 0, 1) := by decide +kernel
theorem dX4_record_9 : decode cX4_record 9 = .ok (.iload 4, 2) := by decide +kernel
theorem dX4_record_11 : decode cX4_record 11 = .ok (.ifCond .lt 16, 3) := by decide +kernel
theorem dX4_record_14 : decode cX4_record 14 = .ok (.iload_n 3, 1) := by decide +kernel
theorem dX4_record_15 : decode cX4_record 15 = .ok (.ifCond .eq 8, 3) := by decide +kernel
theorem dX4_record_18 : decode cX4_record 18 = .ok (.iload_n 3, 1) := by decide +kernel
theorem dX4_record_19 : decode cX4_record 19 = .ok (.iconst 1, 1) := by decide +kernel
theorem dX4_record_20 : decode cX4_record 20 = .ok (.if_icmp .ne 7, 3) := by decide +kernel
theorem dX4_record_23 : decode cX4_record 23 = .ok (.iconst 1, 1) := by decide +kernel
theorem dX4_record_24 : decode cX4_record 24 = .ok (.goto 4, 3) := by decide +kernel
theorem dX4_record_27 : decode cX4_record 27 = .ok (.iconst 0, 1) := by decide +kernel
theorem dX4_record_28 : decode cX4_record 28 = .ok (.iconst 1, 1) := by decide +kernel
theorem dX4_record_29 : decode cX4_record 29 = .ok (.iconst 1, 1) := by decide +kernel
theorem dX4_record_30 : decode cX4_record 30 = .ok (.invokevirtual 68, 3) := by decide +kernel
theorem dX4_record_33 : decode cX4_record 33 = .ok (.ifCond .ne 5, 3) := by decide +kernel
theorem dX4_record_36 : decode cX4_record 36 = .ok (.iconst 0, 1) := by decide +kernel
theorem dX4_record_37 : decode cX4_record 37 = .ok (.ireturn, 1) := by decide +kernel
theorem dX4_record_38 : decode cX4_record 38 = .ok (.iload_n 3, 1) := by decide +kernel
theorem dX4_record_39 : decode cX4_record 39 = .ok (.ifCond .ne 13, 3) := by decide +kernel
theorem dX4_record_42 : decode cX4_record 42 = .ok (.aload_n 0, 1) := by decide +kernel
theorem dX4_record_43 : decode cX4_record 43 = .ok (.getfield 26, 3) := by decide +kernel
theorem dX4_record_46 : decode cX4_record 46 = .ok (.iload 4, 2) := by decide +kernel
theorem dX4_record_48 : decode cX4_record 48 = .ok (.iaload, 1) := by decide +kernel
theorem dX4_record_49 : decode cX4_record 49 = .ok (.goto 10, 3) := by decide +kernel
theorem dX4_record_52 : decode cX4_record 52 = .ok (.aload_n 0, 1) := by decide +kernel
theorem dX4_record_53 : decode cX4_record 53 = .ok (.getfield 29, 3) := by decide +kernel
theorem dX4_record_56 : decode cX4_record 56 = .ok (.iload 4, 2) := by decide +kernel
theorem dX4_record_58 : decode cX4_record 58 = .ok (.iaload, 1) := by decide +kernel
theorem dX4_record_59 : decode cX4_record 59 = .ok (.ireturn, 1) := by decide +kernel
set_option maxRecDepth 20000 in
theorem ggX4_recorded_X4_find : GoodIn wsX4_recorded wsX4_find := goodIn_r _ [6, 7, 8, 14, 15, 16, 17, 18, 19, 20, 21, 22, 23, 24, 25, 26, 27, 28, 29, 30, 31] (by decide +kernel) (by decide +kernel)
set_option maxRecDepth 20000 in
theorem gX4_recorded_X4_find : GoodIn wsX4_recorded (wsV RX4 121 RX4 yX4_find wsX4_find) := goodIn_app (goodIn_of _ (by decide +kernel)) ggX4_recorded_X4_find
set_option maxRecDepth 20000 in
theorem ggX4_recorded_X4_goes : GoodIn wsX4_recorded wsX4_goes := goodIn_r _ [12, 13, 14, 15, 16, 17, 18, 19, 20, 21, 22, 23, 24, 25, 26, 27, 28, 29, 30, 31] (by decide +kernel) (by decide +kernel)
set_option maxRecDepth 20000 in
theorem gX4_recorded_X4_goes : GoodIn wsX4_recorded (wsV RX4 68 RX4 yX4_goes wsX4_goes) := goodIn_app (goodIn_of _ (by decide +kernel)) ggX4_recorded_X4_goes
theorem dX4_recorded_0 : decode cX4_recorded 0 = .ok (.aload_n 0, 1) := by decide +kernel
theorem dX4_recorded_1 : decode cX4_recorded 1 = .ok (.iload_n 1, 1) := by decide +kernel
theorem dX4_recorded_2 : decode cX4_recorded 2 = .ok (.iload_n 2, 1) := by decide +kernel
theorem dX4_recorded_3 : decode cX4_recorded 3 = .ok (.invokevirtual 121, 3) := by decide +kernel
theorem dX4_recorded_6 : decode cX4_recorded 6 = .ok (.istore_n 3, 1) := by decide +kernel
theorem dX4_recorded_7 : decode cX4_recorded 7 = .ok (.aload_n 0, 1) := by decide +kernel
theorem dX4_recorded_8 : decode cX4_recorded 8 = .ok (.iload_n 3, 1) := by decide +kernel
theorem dX4_recorded_9 : decode cX4_recorded 9 = .ok (.ifCond .lt 7, 3) := by decide +kernel
theorem dX4_recorded_12 : decode cX4_recorded 12 = .ok (.iconst 1, 1) := by decide +kernel
theorem dX4_recorded_13 : decode cX4_recorded 13 = .ok (.goto 4, 3) := by decide +kernel
theorem dX4_recorded_16 : decode cX4_recorded 16 = .ok (.iconst 0, 1) := by decide +kernel
theorem dX4_recorded_17 : decode cX4_recorded 17 = .ok (.iconst 1, 1) := by decide +kernel
theorem dX4_recorded_18 : decode cX4_recorded 18 = .ok (.iconst 1, 1) := by decide +kernel
theorem dX4_recorded_19 : decode cX4_recorded 19 = .ok (.invokevirtual 68, 3) := by decide +kernel
theorem dX4_recorded_22 : decode cX4_recorded 22 = .ok (.ifCond .eq 12, 3) := by decide +kernel
theorem dX4_recorded_25 : decode cX4_recorded 25 = .ok (.aload_n 0, 1) := by decide +kernel
theorem dX4_recorded_26 : decode cX4_recorded 26 = .ok (.getfield 32, 3) := by decide +kernel
theorem dX4_recorded_29 : decode cX4_recorded 29 = .ok (.iload_n 3, 1) := by decide +kernel
theorem dX4_recorded_30 : decode cX4_recorded 30 = .ok (.faload, 1) := by decide +kernel
theorem dX4_recorded_31 : decode cX4_recorded 31 = .ok (.goto 4, 3) := by decide +kernel
theorem dX4_recorded_34 : decode cX4_recorded 34 = .ok (.fconst 0, 1) := by decide +kernel
theorem dX4_recorded_35 : decode cX4_recorded 35 = .ok (.freturn, 1) := by decide +kernel
set_option maxRecDepth 20000 in
theorem ggX4_count_X4_goes : GoodIn wsX4_count wsX4_goes := goodIn_r _ [12, 13, 19, 20, 21, 22, 23, 24, 25, 26, 27, 28, 29, 30, 31, 32, 33, 34, 35, 36] (by decide +kernel) (by decide +kernel)
set_option maxRecDepth 20000 in
theorem gX4_count_X4_goes : GoodIn wsX4_count (wsV RX4 68 RX4 yX4_goes wsX4_goes) := goodIn_app (goodIn_of _ (by decide +kernel)) ggX4_count_X4_goes
set_option maxRecDepth 20000 in
theorem ggX4_count_X4_inputsOf : GoodIn wsX4_count wsX4_inputsOf := goodIn_r _ [17, 5, 18, 19, 20, 21, 22, 23, 24, 25, 26, 27, 28, 29, 30, 31, 32, 33, 34, 35, 36] (by decide +kernel) (by decide +kernel)
set_option maxRecDepth 20000 in
theorem gX4_count_X4_inputsOf : GoodIn wsX4_count (wsV RX4 83 RX4 yX4_inputsOf wsX4_inputsOf) := goodIn_app (goodIn_of _ (by decide +kernel)) ggX4_count_X4_inputsOf
theorem dX4_count_0 : decode cX4_count 0 = .ok (.aload_n 0, 1) := by decide +kernel
theorem dX4_count_1 : decode cX4_count 1 = .ok (.iload_n 1, 1) := by decide +kernel
theorem dX4_count_2 : decode cX4_count 2 = .ok (.ifCond .lt 13, 3) := by decide +kernel
theorem dX4_count_5 : decode cX4_count 5 = .ok (.iload_n 1, 1) := by decide +kernel
theorem dX4_count_6 : decode cX4_count 6 = .ok (.bipush 7, 2) := by decide +kernel
theorem dX4_count_8 : decode cX4_count 8 = .ok (.if_icmp .gt 7, 3) := by decide +kernel
theorem dX4_count_11 : decode cX4_count 11 = .ok (.iconst 1, 1) := by decide +kernel
theorem dX4_count_12 : decode cX4_count 12 = .ok (.goto 4, 3) := by decide +kernel
theorem dX4_count_15 : decode cX4_count 15 = .ok (.iconst 0, 1) := by decide +kernel
theorem dX4_count_16 : decode cX4_count 16 = .ok (.iconst 1, 1) := by decide +kernel
theorem dX4_count_17 : decode cX4_count 17 = .ok (.iconst 1, 1) := by decide +kernel
theorem dX4_count_18 : decode cX4_count 18 = .ok (.invokevirtual 68, 3) := by decide +kernel
theorem dX4_count_21 : decode cX4_count 21 = .ok (.ifCond .ne 5, 3) := by decide +kernel
theorem dX4_count_24 : decode cX4_count 24 = .ok (.iconst 0, 1) := by decide +kernel
theorem dX4_count_25 : decode cX4_count 25 = .ok (.ireturn, 1) := by decide +kernel
theorem dX4_count_26 : decode cX4_count 26 = .ok (.iconst 0, 1) := by decide +kernel
theorem dX4_count_27 : decode cX4_count 27 = .ok (.istore_n 2, 1) := by decide +kernel
theorem dX4_count_28 : decode cX4_count 28 = .ok (.iconst 0, 1) := by decide +kernel
theorem dX4_count_29 : decode cX4_count 29 = .ok (.istore_n 3, 1) := by decide +kernel
theorem dX4_count_30 : decode cX4_count 30 = .ok (.iload_n 3, 1) := by decide +kernel
theorem dX4_count_31 : decode cX4_count 31 = .ok (.aload_n 0, 1) := by decide +kernel
theorem dX4_count_32 : decode cX4_count 32 = .ok (.getfield 41, 3) := by decide +kernel
theorem dX4_count_35 : decode cX4_count 35 = .ok (.if_icmp .ge 28, 3) := by decide +kernel
theorem dX4_count_38 : decode cX4_count 38 = .ok (.aload_n 0, 1) := by decide +kernel
theorem dX4_count_39 : decode cX4_count 39 = .ok (.getfield 7, 3) := by decide +kernel
theorem dX4_count_42 : decode cX4_count 42 = .ok (.iload_n 3, 1) := by decide +kernel
theorem dX4_count_43 : decode cX4_count 43 = .ok (.faload, 1) := by decide +kernel
theorem dX4_count_44 : decode cX4_count 44 = .ok (.fconst 0, 1) := by decide +kernel
theorem dX4_count_45 : decode cX4_count 45 = .ok (.fcmp .l, 1) := by decide +kernel
theorem dX4_count_46 : decode cX4_count 46 = .ok (.ifCond .eq 9, 3) := by decide +kernel
theorem dX4_count_49 : decode cX4_count 49 = .ok (.iload_n 2, 1) := by decide +kernel
theorem dX4_count_50 : decode cX4_count 50 = .ok (.iconst 1, 1) := by decide +kernel
theorem dX4_count_51 : decode cX4_count 51 = .ok (.iadd, 1) := by decide +kernel
theorem dX4_count_52 : decode cX4_count 52 = .ok (.goto 4, 3) := by decide +kernel
theorem dX4_count_55 : decode cX4_count 55 = .ok (.iload_n 2, 1) := by decide +kernel
theorem dX4_count_56 : decode cX4_count 56 = .ok (.istore_n 2, 1) := by decide +kernel
theorem dX4_count_57 : decode cX4_count 57 = .ok (.iinc 3 1, 3) := by decide +kernel
theorem dX4_count_60 : decode cX4_count 60 = .ok (.goto (-30), 3) := by decide +kernel
theorem dX4_count_63 : decode cX4_count 63 = .ok (.iload_n 1, 1) := by decide +kernel
theorem dX4_count_64 : decode cX4_count 64 = .ok (.tableswitch 83 0 6 #[44, 49, 54, 59, 64, 73, 78], 44) := by decide +kernel
theorem dX4_count_108 : decode cX4_count 108 = .ok (.aload_n 0, 1) := by decide +kernel
theorem dX4_count_109 : decode cX4_count 109 = .ok (.getfield 62, 3) := by decide +kernel
theorem dX4_count_112 : decode cX4_count 112 = .ok (.ireturn, 1) := by decide +kernel
theorem dX4_count_113 : decode cX4_count 113 = .ok (.aload_n 0, 1) := by decide +kernel
theorem dX4_count_114 : decode cX4_count 114 = .ok (.getfield 41, 3) := by decide +kernel
theorem dX4_count_117 : decode cX4_count 117 = .ok (.ireturn, 1) := by decide +kernel
theorem dX4_count_118 : decode cX4_count 118 = .ok (.aload_n 0, 1) := by decide +kernel
theorem dX4_count_119 : decode cX4_count 119 = .ok (.getfield 101, 3) := by decide +kernel
theorem dX4_count_122 : decode cX4_count 122 = .ok (.ireturn, 1) := by decide +kernel
theorem dX4_count_123 : decode cX4_count 123 = .ok (.aload_n 0, 1) := by decide +kernel
theorem dX4_count_124 : decode cX4_count 124 = .ok (.getfield 65, 3) := by decide +kernel
theorem dX4_count_127 : decode cX4_count 127 = .ok (.ireturn, 1) := by decide +kernel
theorem dX4_count_128 : decode cX4_count 128 = .ok (.aload_n 0, 1) := by decide +kernel
theorem dX4_count_129 : decode cX4_count 129 = .ok (.aload_n 0, 1) := by decide +kernel
theorem dX4_count_130 : decode cX4_count 130 = .ok (.getfield 62, 3) := by decide +kernel
theorem dX4_count_133 : decode cX4_count 133 = .ok (.invokevirtual 83, 3) := by decide +kernel
theorem dX4_count_136 : decode cX4_count 136 = .ok (.ireturn, 1) := by decide +kernel
theorem dX4_count_137 : decode cX4_count 137 = .ok (.aload_n 0, 1) := by decide +kernel
theorem dX4_count_138 : decode cX4_count 138 = .ok (.getfield 59, 3) := by decide +kernel
theorem dX4_count_141 : decode cX4_count 141 = .ok (.ireturn, 1) := by decide +kernel
theorem dX4_count_142 : decode cX4_count 142 = .ok (.aload_n 0, 1) := by decide +kernel
theorem dX4_count_143 : decode cX4_count 143 = .ok (.getfield 95, 3) := by decide +kernel
theorem dX4_count_146 : decode cX4_count 146 = .ok (.ireturn, 1) := by decide +kernel
theorem dX4_count_147 : decode cX4_count 147 = .ok (.iload_n 2, 1) := by decide +kernel
theorem dX4_count_148 : decode cX4_count 148 = .ok (.ireturn, 1) := by decide +kernel
theorem dX4_sum_0 : decode cX4_sum 0 = .ok (.aload_n 0, 1) := by decide +kernel
theorem dX4_sum_1 : decode cX4_sum 1 = .ok (.iconst 0, 1) := by decide +kernel
theorem dX4_sum_2 : decode cX4_sum 2 = .ok (.putfield 48, 3) := by decide +kernel
theorem dX4_sum_5 : decode cX4_sum 5 = .ok (.fconst 0, 1) := by decide +kernel
theorem dX4_sum_6 : decode cX4_sum 6 = .ok (.fstore_n 1, 1) := by decide +kernel
theorem dX4_sum_7 : decode cX4_sum 7 = .ok (.iconst 0, 1) := by decide +kernel
theorem dX4_sum_8 : decode cX4_sum 8 = .ok (.istore_n 2, 1) := by decide +kernel
theorem dX4_sum_9 : decode cX4_sum 9 = .ok (.iload_n 2, 1) := by decide +kernel
theorem dX4_sum_10 : decode cX4_sum 10 = .ok (.aload_n 0, 1) := by decide +kernel
theorem dX4_sum_11 : decode cX4_sum 11 = .ok (.getfield 41, 3) := by decide +kernel
theorem dX4_sum_14 : decode cX4_sum 14 = .ok (.if_icmp .ge 18, 3) := by decide +kernel
theorem dX4_sum_17 : decode cX4_sum 17 = .ok (.fload_n 1, 1) := by decide +kernel
theorem dX4_sum_18 : decode cX4_sum 18 = .ok (.aload_n 0, 1) := by decide +kernel
theorem dX4_sum_19 : decode cX4_sum 19 = .ok (.getfield 7, 3) := by decide +kernel
theorem dX4_sum_22 : decode cX4_sum 22 = .ok (.iload_n 2, 1) := by decide +kernel
theorem dX4_sum_23 : decode cX4_sum 23 = .ok (.faload, 1) := by decide +kernel
theorem dX4_sum_24 : decode cX4_sum 24 = .ok (.fadd, 1) := by decide +kernel
theorem dX4_sum_25 : decode cX4_sum 25 = .ok (.fstore_n 1, 1) := by decide +kernel
theorem dX4_sum_26 : decode cX4_sum 26 = .ok (.iinc 2 1, 3) := by decide +kernel
theorem dX4_sum_29 : decode cX4_sum 29 = .ok (.goto (-20), 3) := by decide +kernel
theorem dX4_sum_32 : decode cX4_sum 32 = .ok (.fload_n 1, 1) := by decide +kernel
theorem dX4_sum_33 : decode cX4_sum 33 = .ok (.freturn, 1) := by decide +kernel
theorem dL_cell_0 : decode cL_cell 0 = .ok (.iload_n 1, 1) := by decide +kernel
theorem dL_cell_1 : decode cL_cell 1 = .ok (.aload_n 0, 1) := by decide +kernel
theorem dL_cell_2 : decode cL_cell 2 = .ok (.arraylength, 1) := by decide +kernel
theorem dL_cell_3 : decode cL_cell 3 = .ok (.if_icmp .ge 9, 3) := by decide +kernel
theorem dL_cell_6 : decode cL_cell 6 = .ok (.aload_n 0, 1) := by decide +kernel
theorem dL_cell_7 : decode cL_cell 7 = .ok (.iload_n 1, 1) := by decide +kernel
theorem dL_cell_8 : decode cL_cell 8 = .ok (.iaload, 1) := by decide +kernel
theorem dL_cell_9 : decode cL_cell 9 = .ok (.goto 4, 3) := by decide +kernel
theorem dL_cell_12 : decode cL_cell 12 = .ok (.iconst 0, 1) := by decide +kernel
theorem dL_cell_13 : decode cL_cell 13 = .ok (.ireturn, 1) := by decide +kernel
end
section
set_option maxRecDepth 20000 in
theorem ggL_drift_X3_drift : GoodIn wsL_drift wsX3_drift := goodIn_ca (goodIn_ca (goodIn_ca (goodIn_r _ [8, 9, 10, 11, 12, 13, 14, 15, 16, 17, 18, 19, 20, 7, 21, 22, 23, 24, 25, 26, 27, 28, 29, 30, 31, 32, 33, 34, 35, 36, 37, 38, 39, 40, 41, 42, 43, 44, 45, 46, 47, 48] (by decide +kernel) (by decide +kernel)) (goodIn_sub (fun _ h => List.mem_cons_of_mem _ (List.mem_append_left _ (List.mem_append_left _ (List.mem_append_right _ h)))) (by decide +kernel))) (goodIn_sub (fun _ h => List.mem_cons_of_mem _ (List.mem_append_left _ (List.mem_append_right _ h))) (by decide +kernel))) (goodIn_sub (fun _ h => List.mem_cons_of_mem _ (List.mem_append_right _ h)) (by decide +kernel))
set_option maxRecDepth 20000 in
theorem gL_drift_X3_drift : GoodIn wsL_drift (wsV RL 7 RX3 yX3_drift wsX3_drift) := goodIn_app (goodIn_of _ (by decide +kernel)) ggL_drift_X3_drift
theorem dL_drift_0 : decode cL_drift 0 = .ok (.aload 4, 2) := by decide +kernel
theorem dL_drift_2 : decode cL_drift 2 = .ok (.iconst 0, 1) := by decide +kernel
theorem dL_drift_3 : decode cL_drift 3 = .ok (.aload_n 0, 1) := by decide +kernel
theorem dL_drift_4 : decode cL_drift 4 = .ok (.iload_n 1, 1) := by decide +kernel
theorem dL_drift_5 : decode cL_drift 5 = .ok (.iload_n 2, 1) := by decide +kernel
theorem dL_drift_6 : decode cL_drift 6 = .ok (.fload_n 3, 1) := by decide +kernel
theorem dL_drift_7 : decode cL_drift 7 = .ok (.invokevirtual 7, 3) := by decide +kernel
theorem dL_drift_10 : decode cL_drift 10 = .ok (.i2l, 1) := by decide +kernel
theorem dL_drift_11 : decode cL_drift 11 = .ok (.lastore, 1) := by decide +kernel
theorem dL_drift_12 : decode cL_drift 12 = .ok (.goto 15, 3) := by decide +kernel
theorem dL_drift_15 : decode cL_drift 15 = .ok (.astore 5, 2) := by decide +kernel
theorem dL_drift_17 : decode cL_drift 17 = .ok (.iconst 1, 1) := by decide +kernel
theorem dL_drift_18 : decode cL_drift 18 = .ok (.ireturn, 1) := by decide +kernel
theorem dL_drift_19 : decode cL_drift 19 = .ok (.astore 5, 2) := by decide +kernel
theorem dL_drift_21 : decode cL_drift 21 = .ok (.iconst 2, 1) := by decide +kernel
theorem dL_drift_22 : decode cL_drift 22 = .ok (.ireturn, 1) := by decide +kernel
theorem dL_drift_23 : decode cL_drift 23 = .ok (.astore 5, 2) := by decide +kernel
theorem dL_drift_25 : decode cL_drift 25 = .ok (.iconst 3, 1) := by decide +kernel
theorem dL_drift_26 : decode cL_drift 26 = .ok (.ireturn, 1) := by decide +kernel
theorem dL_drift_27 : decode cL_drift 27 = .ok (.iconst 0, 1) := by decide +kernel
theorem dL_drift_28 : decode cL_drift 28 = .ok (.ireturn, 1) := by decide +kernel
set_option maxRecDepth 20000 in
theorem ggL_every_X3_every : GoodIn wsL_every wsX3_every := goodIn_ca (goodIn_r _ [6, 7, 8, 9, 10, 11, 12, 13, 14, 15, 16] (by decide +kernel) (by decide +kernel)) (goodIn_sub (fun _ h => List.mem_cons_of_mem _ (List.mem_append_right _ h)) (by decide +kernel))
set_option maxRecDepth 20000 in
theorem gL_every_X3_every : GoodIn wsL_every (wsV RL 19 RX3 yX3_every wsX3_every) := goodIn_app (goodIn_of _ (by decide +kernel)) ggL_every_X3_every
theorem dL_every_0 : decode cL_every 0 = .ok (.aload_n 2, 1) := by decide +kernel
theorem dL_every_1 : decode cL_every 1 = .ok (.iconst 0, 1) := by decide +kernel
theorem dL_every_2 : decode cL_every 2 = .ok (.aload_n 0, 1) := by decide +kernel
theorem dL_every_3 : decode cL_every 3 = .ok (.iload_n 1, 1) := by decide +kernel
theorem dL_every_4 : decode cL_every 4 = .ok (.invokevirtual 19, 3) := by decide +kernel
theorem dL_every_7 : decode cL_every 7 = .ok (.i2l, 1) := by decide +kernel
theorem dL_every_8 : decode cL_every 8 = .ok (.lastore, 1) := by decide +kernel
theorem dL_every_9 : decode cL_every 9 = .ok (.goto 6, 3) := by decide +kernel
theorem dL_every_12 : decode cL_every 12 = .ok (.astore_n 3, 1) := by decide +kernel
theorem dL_every_13 : decode cL_every 13 = .ok (.iconst 1, 1) := by decide +kernel
theorem dL_every_14 : decode cL_every 14 = .ok (.ireturn, 1) := by decide +kernel
theorem dL_every_15 : decode cL_every 15 = .ok (.iconst 0, 1) := by decide +kernel
theorem dL_every_16 : decode cL_every 16 = .ok (.ireturn, 1) := by decide +kernel
set_option maxRecDepth 20000 in
theorem ggL_input_X3_input : GoodIn wsL_input wsX3_input := goodIn_ca (goodIn_ca (goodIn_ca (goodIn_r _ [8, 9, 10, 11, 12, 13, 7, 14, 15, 16, 17, 18, 19, 20, 21, 22, 23, 24, 25, 26, 27, 28, 29, 30, 31, 32, 33, 34, 35, 36, 37, 38, 39, 40, 41, 42, 43, 44, 45, 46, 47, 48, 49, 50, 51, 52, 53, 54, 55, 56, 57, 58, 59, 60, 61, 62, 63, 64, 65, 66] (by decide +kernel) (by decide +kernel)) (goodIn_sub (fun _ h => List.mem_cons_of_mem _ (List.mem_append_left _ (List.mem_append_left _ (List.mem_append_right _ h)))) (by decide +kernel))) (goodIn_sub (fun _ h => List.mem_cons_of_mem _ (List.mem_append_left _ (List.mem_append_right _ h))) (by decide +kernel))) (goodIn_sub (fun _ h => List.mem_cons_of_mem _ (List.mem_append_right _ h)) (by decide +kernel))
set_option maxRecDepth 20000 in
theorem gL_input_X3_input : GoodIn wsL_input (wsV RL 23 RX3 yX3_input wsX3_input) := goodIn_app (goodIn_of _ (by decide +kernel)) ggL_input_X3_input
theorem dL_input_0 : decode cL_input 0 = .ok (.aload 4, 2) := by decide +kernel
theorem dL_input_2 : decode cL_input 2 = .ok (.iconst 0, 1) := by decide +kernel
theorem dL_input_3 : decode cL_input 3 = .ok (.aload_n 0, 1) := by decide +kernel
theorem dL_input_4 : decode cL_input 4 = .ok (.iload_n 1, 1) := by decide +kernel
theorem dL_input_5 : decode cL_input 5 = .ok (.iload_n 2, 1) := by decide +kernel
theorem dL_input_6 : decode cL_input 6 = .ok (.fload_n 3, 1) := by decide +kernel
theorem dL_input_7 : decode cL_input 7 = .ok (.invokevirtual 23, 3) := by decide +kernel
theorem dL_input_10 : decode cL_input 10 = .ok (.i2l, 1) := by decide +kernel
theorem dL_input_11 : decode cL_input 11 = .ok (.lastore, 1) := by decide +kernel
theorem dL_input_12 : decode cL_input 12 = .ok (.goto 15, 3) := by decide +kernel
theorem dL_input_15 : decode cL_input 15 = .ok (.astore 5, 2) := by decide +kernel
theorem dL_input_17 : decode cL_input 17 = .ok (.iconst 1, 1) := by decide +kernel
theorem dL_input_18 : decode cL_input 18 = .ok (.ireturn, 1) := by decide +kernel
theorem dL_input_19 : decode cL_input 19 = .ok (.astore 5, 2) := by decide +kernel
theorem dL_input_21 : decode cL_input 21 = .ok (.iconst 2, 1) := by decide +kernel
theorem dL_input_22 : decode cL_input 22 = .ok (.ireturn, 1) := by decide +kernel
theorem dL_input_23 : decode cL_input 23 = .ok (.astore 5, 2) := by decide +kernel
theorem dL_input_25 : decode cL_input 25 = .ok (.iconst 3, 1) := by decide +kernel
theorem dL_input_26 : decode cL_input 26 = .ok (.ireturn, 1) := by decide +kernel
theorem dL_input_27 : decode cL_input 27 = .ok (.iconst 0, 1) := by decide +kernel
theorem dL_input_28 : decode cL_input 28 = .ok (.ireturn, 1) := by decide +kernel
set_option maxRecDepth 20000 in
theorem ggL_inputs_X3_inputs : GoodIn wsL_inputs wsX3_inputs := goodIn_ca (goodIn_ca (goodIn_ca (goodIn_r _ [8, 9, 10, 11, 12, 13, 14, 15, 7, 16, 17, 18, 19, 20, 21, 22, 23, 24, 25, 26, 27, 28, 29, 30, 31, 32, 33, 34, 35, 36, 37, 38, 39, 40, 41, 42, 43, 44, 45, 46, 47, 48, 49, 50, 51, 52, 53, 54, 55, 56, 57, 58, 59, 60, 61, 62, 63, 64, 65, 66, 67, 68, 69, 70] (by decide +kernel) (by decide +kernel)) (goodIn_sub (fun _ h => List.mem_cons_of_mem _ (List.mem_append_left _ (List.mem_append_left _ (List.mem_append_right _ h)))) (by decide +kernel))) (goodIn_sub (fun _ h => List.mem_cons_of_mem _ (List.mem_append_left _ (List.mem_append_right _ h))) (by decide +kernel))) (goodIn_sub (fun _ h => List.mem_cons_of_mem _ (List.mem_append_right _ h)) (by decide +kernel))
set_option maxRecDepth 20000 in
theorem gL_inputs_X3_inputs : GoodIn wsL_inputs (wsV RL 26 RX3 yX3_inputs wsX3_inputs) := goodIn_app (goodIn_of _ (by decide +kernel)) ggL_inputs_X3_inputs
theorem dL_inputs_0 : decode cL_inputs 0 = .ok (.aload 6, 2) := by decide +kernel
theorem dL_inputs_2 : decode cL_inputs 2 = .ok (.iconst 0, 1) := by decide +kernel
theorem dL_inputs_3 : decode cL_inputs 3 = .ok (.aload_n 0, 1) := by decide +kernel
theorem dL_inputs_4 : decode cL_inputs 4 = .ok (.iload_n 1, 1) := by decide +kernel
theorem dL_inputs_5 : decode cL_inputs 5 = .ok (.iload_n 2, 1) := by decide +kernel
theorem dL_inputs_6 : decode cL_inputs 6 = .ok (.iload_n 3, 1) := by decide +kernel
theorem dL_inputs_7 : decode cL_inputs 7 = .ok (.iload 4, 2) := by decide +kernel
theorem dL_inputs_9 : decode cL_inputs 9 = .ok (.fload 5, 2) := by decide +kernel
theorem dL_inputs_11 : decode cL_inputs 11 = .ok (.invokevirtual 26, 3) := by decide +kernel
theorem dL_inputs_14 : decode cL_inputs 14 = .ok (.i2l, 1) := by decide +kernel
theorem dL_inputs_15 : decode cL_inputs 15 = .ok (.lastore, 1) := by decide +kernel
theorem dL_inputs_16 : decode cL_inputs 16 = .ok (.goto 15, 3) := by decide +kernel
theorem dL_inputs_19 : decode cL_inputs 19 = .ok (.astore 7, 2) := by decide +kernel
theorem dL_inputs_21 : decode cL_inputs 21 = .ok (.iconst 1, 1) := by decide +kernel
theorem dL_inputs_22 : decode cL_inputs 22 = .ok (.ireturn, 1) := by decide +kernel
theorem dL_inputs_23 : decode cL_inputs 23 = .ok (.astore 7, 2) := by decide +kernel
theorem dL_inputs_25 : decode cL_inputs 25 = .ok (.iconst 2, 1) := by decide +kernel
theorem dL_inputs_26 : decode cL_inputs 26 = .ok (.ireturn, 1) := by decide +kernel
theorem dL_inputs_27 : decode cL_inputs 27 = .ok (.astore 7, 2) := by decide +kernel
theorem dL_inputs_29 : decode cL_inputs 29 = .ok (.iconst 3, 1) := by decide +kernel
theorem dL_inputs_30 : decode cL_inputs 30 = .ok (.ireturn, 1) := by decide +kernel
theorem dL_inputs_31 : decode cL_inputs 31 = .ok (.iconst 0, 1) := by decide +kernel
theorem dL_inputs_32 : decode cL_inputs 32 = .ok (.ireturn, 1) := by decide +kernel
set_option maxRecDepth 20000 in
theorem ggL_step_X3_step : GoodIn wsL_step wsX3_step := goodIn_ca (goodIn_r _ [6, 7, 8, 9, 10, 11, 12, 5, 13, 14, 15, 16, 17, 18, 19, 20, 21, 22, 23, 24, 25, 26, 27, 28, 29, 30, 31, 32, 33, 34, 35, 36, 37, 38, 39, 40, 41, 42, 43, 44, 45, 46, 47, 48, 49, 50, 51, 52, 53, 54, 55, 56, 57, 58, 59, 60, 61, 62, 63, 64, 65, 66, 67, 68, 69, 70, 71, 72, 73, 74, 75, 76, 77, 78, 79, 80, 81, 82, 83, 84, 85, 86, 87, 88, 89, 90, 91, 92, 93, 94, 95, 96, 97, 98, 99] (by decide +kernel) (by decide +kernel)) (goodIn_sub (fun _ h => List.mem_cons_of_mem _ (List.mem_append_right _ h)) (by decide +kernel))
set_option maxRecDepth 20000 in
theorem gL_step_X3_step : GoodIn wsL_step (wsV RL 30 RX3 yX3_step wsX3_step) := goodIn_app (goodIn_of _ (by decide +kernel)) ggL_step_X3_step
theorem dL_step_0 : decode cL_step 0 = .ok (.aload_n 2, 1) := by decide +kernel
theorem dL_step_1 : decode cL_step 1 = .ok (.iconst 0, 1) := by decide +kernel
theorem dL_step_2 : decode cL_step 2 = .ok (.aload_n 0, 1) := by decide +kernel
theorem dL_step_3 : decode cL_step 3 = .ok (.iload_n 1, 1) := by decide +kernel
theorem dL_step_4 : decode cL_step 4 = .ok (.invokevirtual 30, 3) := by decide +kernel
theorem dL_step_7 : decode cL_step 7 = .ok (.i2l, 1) := by decide +kernel
theorem dL_step_8 : decode cL_step 8 = .ok (.lastore, 1) := by decide +kernel
theorem dL_step_9 : decode cL_step 9 = .ok (.goto 6, 3) := by decide +kernel
theorem dL_step_12 : decode cL_step 12 = .ok (.astore_n 3, 1) := by decide +kernel
theorem dL_step_13 : decode cL_step 13 = .ok (.iconst 1, 1) := by decide +kernel
theorem dL_step_14 : decode cL_step 14 = .ok (.ireturn, 1) := by decide +kernel
theorem dL_step_15 : decode cL_step 15 = .ok (.iconst 0, 1) := by decide +kernel
theorem dL_step_16 : decode cL_step 16 = .ok (.ireturn, 1) := by decide +kernel
set_option maxRecDepth 20000 in
theorem ggL_back_X3_back : GoodIn wsL_back wsX3_back := goodIn_ca (goodIn_r _ [6, 7, 8, 9, 5, 10, 11, 12, 13, 14, 15, 16, 17, 18, 19, 20, 21, 22, 23, 24, 25, 26, 27, 28, 29, 30, 31, 32, 33, 34, 35, 36, 37, 38, 39, 40, 41, 42, 43, 44, 45, 46, 47, 48, 49, 50, 51, 52, 53, 54, 55, 56, 57, 58, 59, 60] (by decide +kernel) (by decide +kernel)) (goodIn_sub (fun _ h => List.mem_cons_of_mem _ (List.mem_append_right _ h)) (by decide +kernel))
set_option maxRecDepth 20000 in
theorem gL_back_X3_back : GoodIn wsL_back (wsV RL 33 RX3 yX3_back wsX3_back) := goodIn_app (goodIn_of _ (by decide +kernel)) ggL_back_X3_back
theorem dL_back_0 : decode cL_back 0 = .ok (.aload_n 2, 1) := by decide +kernel
theorem dL_back_1 : decode cL_back 1 = .ok (.iconst 0, 1) := by decide +kernel
theorem dL_back_2 : decode cL_back 2 = .ok (.aload_n 0, 1) := by decide +kernel
theorem dL_back_3 : decode cL_back 3 = .ok (.iload_n 1, 1) := by decide +kernel
theorem dL_back_4 : decode cL_back 4 = .ok (.invokevirtual 33, 3) := by decide +kernel
theorem dL_back_7 : decode cL_back 7 = .ok (.i2l, 1) := by decide +kernel
theorem dL_back_8 : decode cL_back 8 = .ok (.lastore, 1) := by decide +kernel
theorem dL_back_9 : decode cL_back 9 = .ok (.goto 6, 3) := by decide +kernel
theorem dL_back_12 : decode cL_back 12 = .ok (.astore_n 3, 1) := by decide +kernel
theorem dL_back_13 : decode cL_back 13 = .ok (.iconst 1, 1) := by decide +kernel
theorem dL_back_14 : decode cL_back 14 = .ok (.ireturn, 1) := by decide +kernel
theorem dL_back_15 : decode cL_back 15 = .ok (.iconst 0, 1) := by decide +kernel
theorem dL_back_16 : decode cL_back 16 = .ok (.ireturn, 1) := by decide +kernel
set_option maxRecDepth 20000 in
theorem ggL_forget_X3_forget : GoodIn wsL_forget wsX3_forget := goodIn_ca (goodIn_r _ [6, 7, 8, 9, 10, 11, 12, 13, 14, 15, 16, 17, 18, 19, 20, 21, 22, 23, 24, 25, 26, 27, 28, 29, 30, 31, 32] (by decide +kernel) (by decide +kernel)) (goodIn_sub (fun _ h => List.mem_cons_of_mem _ (List.mem_append_right _ h)) (by decide +kernel))
set_option maxRecDepth 20000 in
theorem gL_forget_X3_forget : GoodIn wsL_forget (wsV RL 36 RX3 yX3_forget wsX3_forget) := goodIn_app (goodIn_of _ (by decide +kernel)) ggL_forget_X3_forget
theorem dL_forget_0 : decode cL_forget 0 = .ok (.aload_n 2, 1) := by decide +kernel
theorem dL_forget_1 : decode cL_forget 1 = .ok (.iconst 0, 1) := by decide +kernel
theorem dL_forget_2 : decode cL_forget 2 = .ok (.aload_n 0, 1) := by decide +kernel
theorem dL_forget_3 : decode cL_forget 3 = .ok (.iload_n 1, 1) := by decide +kernel
theorem dL_forget_4 : decode cL_forget 4 = .ok (.invokevirtual 36, 3) := by decide +kernel
theorem dL_forget_7 : decode cL_forget 7 = .ok (.i2l, 1) := by decide +kernel
theorem dL_forget_8 : decode cL_forget 8 = .ok (.lastore, 1) := by decide +kernel
theorem dL_forget_9 : decode cL_forget 9 = .ok (.goto 6, 3) := by decide +kernel
theorem dL_forget_12 : decode cL_forget 12 = .ok (.astore_n 3, 1) := by decide +kernel
theorem dL_forget_13 : decode cL_forget 13 = .ok (.iconst 1, 1) := by decide +kernel
theorem dL_forget_14 : decode cL_forget 14 = .ok (.ireturn, 1) := by decide +kernel
theorem dL_forget_15 : decode cL_forget 15 = .ok (.iconst 0, 1) := by decide +kernel
theorem dL_forget_16 : decode cL_forget 16 = .ok (.ireturn, 1) := by decide +kernel
set_option maxRecDepth 20000 in
theorem ggL_late_X3_late : GoodIn wsL_late wsX3_late := goodIn_ca (goodIn_ca (goodIn_ca (goodIn_r _ [8, 9, 10, 11, 12, 13, 14, 15, 16, 17, 18, 7, 19, 20, 21, 22, 23, 24, 25, 26, 27, 28, 29, 30, 31, 32, 33, 34, 35, 36, 37, 38, 39, 40, 41, 42, 43, 44, 45, 46, 47, 48, 49, 50, 51, 52, 53, 54, 55, 56, 57, 58, 59, 60, 61, 62, 63, 64, 65, 66, 67, 68, 69, 70, 71, 72, 73, 74, 75, 76, 77, 78, 79, 80, 81, 82, 83, 84, 85, 86, 87, 88, 89, 90, 91, 92, 93, 94, 95, 96, 97, 98, 99, 100, 101, 102, 103, 104, 105, 106, 107, 108, 109, 110, 111, 112, 113, 114, 115, 116, 117, 118, 119, 120, 121, 122, 123, 124, 125, 126, 127, 128, 129, 130, 131, 132, 133, 134, 135, 136, 137] (by decide +kernel) (by decide +kernel)) (goodIn_sub (fun _ h => List.mem_cons_of_mem _ (List.mem_append_left _ (List.mem_append_left _ (List.mem_append_right _ h)))) (by decide +kernel))) (goodIn_sub (fun _ h => List.mem_cons_of_mem _ (List.mem_append_left _ (List.mem_append_right _ h))) (by decide +kernel))) (goodIn_sub (fun _ h => List.mem_cons_of_mem _ (List.mem_append_right _ h)) (by decide +kernel))
set_option maxRecDepth 20000 in
theorem gL_late_X3_late : GoodIn wsL_late (wsV RL 39 RX3 yX3_late wsX3_late) := goodIn_app (goodIn_of _ (by decide +kernel)) ggL_late_X3_late
theorem dL_late_0 : decode cL_late 0 = .ok (.aload 5, 2) := by decide +kernel
theorem dL_late_2 : decode cL_late 2 = .ok (.iconst 0, 1) := by decide +kernel
theorem dL_late_3 : decode cL_late 3 = .ok (.aload_n 0, 1) := by decide +kernel
theorem dL_late_4 : decode cL_late 4 = .ok (.iload_n 1, 1) := by decide +kernel
theorem dL_late_5 : decode cL_late 5 = .ok (.iload_n 2, 1) := by decide +kernel
theorem dL_late_6 : decode cL_late 6 = .ok (.iload_n 3, 1) := by decide +kernel
theorem dL_late_7 : decode cL_late 7 = .ok (.fload 4, 2) := by decide +kernel
theorem dL_late_9 : decode cL_late 9 = .ok (.invokevirtual 39, 3) := by decide +kernel
theorem dL_late_12 : decode cL_late 12 = .ok (.i2l, 1) := by decide +kernel
theorem dL_late_13 : decode cL_late 13 = .ok (.lastore, 1) := by decide +kernel
theorem dL_late_14 : decode cL_late 14 = .ok (.goto 15, 3) := by decide +kernel
theorem dL_late_17 : decode cL_late 17 = .ok (.astore 6, 2) := by decide +kernel
theorem dL_late_19 : decode cL_late 19 = .ok (.iconst 1, 1) := by decide +kernel
theorem dL_late_20 : decode cL_late 20 = .ok (.ireturn, 1) := by decide +kernel
theorem dL_late_21 : decode cL_late 21 = .ok (.astore 6, 2) := by decide +kernel
theorem dL_late_23 : decode cL_late 23 = .ok (.iconst 2, 1) := by decide +kernel
theorem dL_late_24 : decode cL_late 24 = .ok (.ireturn, 1) := by decide +kernel
theorem dL_late_25 : decode cL_late 25 = .ok (.astore 6, 2) := by decide +kernel
theorem dL_late_27 : decode cL_late 27 = .ok (.iconst 3, 1) := by decide +kernel
theorem dL_late_28 : decode cL_late 28 = .ok (.ireturn, 1) := by decide +kernel
theorem dL_late_29 : decode cL_late 29 = .ok (.iconst 0, 1) := by decide +kernel
theorem dL_late_30 : decode cL_late 30 = .ok (.ireturn, 1) := by decide +kernel
set_option maxRecDepth 20000 in
theorem ggL_cell__X3_cell : GoodIn wsL_cell_ wsX3_cell := goodIn_ca (goodIn_r _ [6, 7, 8, 9, 10, 5, 11, 12, 13, 14, 15, 16, 17, 18, 19, 20] (by decide +kernel) (by decide +kernel)) (goodIn_sub (fun _ h => List.mem_cons_of_mem _ (List.mem_append_right _ h)) (by decide +kernel))
set_option maxRecDepth 20000 in
theorem gL_cell__X3_cell : GoodIn wsL_cell_ (wsV RL 43 RX3 yX3_cell wsX3_cell) := goodIn_app (goodIn_of _ (by decide +kernel)) ggL_cell__X3_cell
theorem dL_cell__0 : decode cL_cell_ 0 = .ok (.aload_n 2, 1) := by decide +kernel
theorem dL_cell__1 : decode cL_cell_ 1 = .ok (.iconst 0, 1) := by decide +kernel
theorem dL_cell__2 : decode cL_cell_ 2 = .ok (.aload_n 0, 1) := by decide +kernel
theorem dL_cell__3 : decode cL_cell_ 3 = .ok (.iload_n 1, 1) := by decide +kernel
theorem dL_cell__4 : decode cL_cell_ 4 = .ok (.invokevirtual 43, 3) := by decide +kernel
theorem dL_cell__7 : decode cL_cell_ 7 = .ok (.f2d, 1) := by decide +kernel
theorem dL_cell__8 : decode cL_cell_ 8 = .ok (.dastore, 1) := by decide +kernel
theorem dL_cell__9 : decode cL_cell_ 9 = .ok (.goto 6, 3) := by decide +kernel
theorem dL_cell__12 : decode cL_cell_ 12 = .ok (.astore_n 3, 1) := by decide +kernel
theorem dL_cell__13 : decode cL_cell_ 13 = .ok (.iconst 1, 1) := by decide +kernel
theorem dL_cell__14 : decode cL_cell_ 14 = .ok (.ireturn, 1) := by decide +kernel
theorem dL_cell__15 : decode cL_cell_ 15 = .ok (.iconst 0, 1) := by decide +kernel
theorem dL_cell__16 : decode cL_cell_ 16 = .ok (.ireturn, 1) := by decide +kernel
set_option maxRecDepth 20000 in
theorem ggL_kept_X3_kept : GoodIn wsL_kept wsX3_kept := goodIn_ca (goodIn_r _ [6, 7, 8, 9, 10, 5, 11, 12, 13, 14, 15, 16, 17, 18, 19, 20, 21, 22, 23, 24, 25, 26, 27, 28, 29, 30, 31, 32, 33, 34, 35, 36, 37, 38, 39, 40, 41, 42, 43, 44, 45, 46, 47, 48, 49, 50, 51, 52] (by decide +kernel) (by decide +kernel)) (goodIn_sub (fun _ h => List.mem_cons_of_mem _ (List.mem_append_right _ h)) (by decide +kernel))
set_option maxRecDepth 20000 in
theorem gL_kept_X3_kept : GoodIn wsL_kept (wsV RL 47 RX3 yX3_kept wsX3_kept) := goodIn_app (goodIn_of _ (by decide +kernel)) ggL_kept_X3_kept
theorem dL_kept_0 : decode cL_kept 0 = .ok (.aload_n 3, 1) := by decide +kernel
theorem dL_kept_1 : decode cL_kept 1 = .ok (.iconst 0, 1) := by decide +kernel
theorem dL_kept_2 : decode cL_kept 2 = .ok (.aload_n 0, 1) := by decide +kernel
theorem dL_kept_3 : decode cL_kept 3 = .ok (.iload_n 1, 1) := by decide +kernel
theorem dL_kept_4 : decode cL_kept 4 = .ok (.iload_n 2, 1) := by decide +kernel
theorem dL_kept_5 : decode cL_kept 5 = .ok (.invokevirtual 47, 3) := by decide +kernel
theorem dL_kept_8 : decode cL_kept 8 = .ok (.f2d, 1) := by decide +kernel
theorem dL_kept_9 : decode cL_kept 9 = .ok (.dastore, 1) := by decide +kernel
theorem dL_kept_10 : decode cL_kept 10 = .ok (.goto 7, 3) := by decide +kernel
theorem dL_kept_13 : decode cL_kept 13 = .ok (.astore 4, 2) := by decide +kernel
theorem dL_kept_15 : decode cL_kept 15 = .ok (.iconst 1, 1) := by decide +kernel
theorem dL_kept_16 : decode cL_kept 16 = .ok (.ireturn, 1) := by decide +kernel
theorem dL_kept_17 : decode cL_kept 17 = .ok (.iconst 0, 1) := by decide +kernel
theorem dL_kept_18 : decode cL_kept 18 = .ok (.ireturn, 1) := by decide +kernel
set_option maxRecDepth 20000 in
theorem ggL_differs_X3_differs : GoodIn wsL_differs wsX3_differs := goodIn_ca (goodIn_r _ [6, 7, 8, 9, 10, 11, 5, 12, 13, 14, 15, 16, 17, 18, 19, 20, 21, 22, 23, 24, 25, 26, 27, 28, 29, 30, 31, 32, 33, 34, 35, 36, 37, 38, 39, 40, 41, 42, 43, 44, 45, 46, 47, 48] (by decide +kernel) (by decide +kernel)) (goodIn_sub (fun _ h => List.mem_cons_of_mem _ (List.mem_append_right _ h)) (by decide +kernel))
set_option maxRecDepth 20000 in
theorem gL_differs_X3_differs : GoodIn wsL_differs (wsV RL 51 RX3 yX3_differs wsX3_differs) := goodIn_app (goodIn_of _ (by decide +kernel)) ggL_differs_X3_differs
theorem dL_differs_0 : decode cL_differs 0 = .ok (.aload_n 2, 1) := by decide +kernel
theorem dL_differs_1 : decode cL_differs 1 = .ok (.iconst 0, 1) := by decide +kernel
theorem dL_differs_2 : decode cL_differs 2 = .ok (.aload_n 0, 1) := by decide +kernel
theorem dL_differs_3 : decode cL_differs 3 = .ok (.iload_n 1, 1) := by decide +kernel
theorem dL_differs_4 : decode cL_differs 4 = .ok (.invokevirtual 51, 3) := by decide +kernel
theorem dL_differs_7 : decode cL_differs 7 = .ok (.i2l, 1) := by decide +kernel
theorem dL_differs_8 : decode cL_differs 8 = .ok (.lastore, 1) := by decide +kernel
theorem dL_differs_9 : decode cL_differs 9 = .ok (.goto 6, 3) := by decide +kernel
theorem dL_differs_12 : decode cL_differs 12 = .ok (.astore_n 3, 1) := by decide +kernel
theorem dL_differs_13 : decode cL_differs 13 = .ok (.iconst 1, 1) := by decide +kernel
theorem dL_differs_14 : decode cL_differs 14 = .ok (.ireturn, 1) := by decide +kernel
theorem dL_differs_15 : decode cL_differs 15 = .ok (.iconst 0, 1) := by decide +kernel
theorem dL_differs_16 : decode cL_differs 16 = .ok (.ireturn, 1) := by decide +kernel
set_option maxRecDepth 20000 in
theorem ggL_snapshot_X3_snapshot : GoodIn wsL_snapshot wsX3_snapshot := goodIn_ca (goodIn_r _ [6, 7, 8, 9, 10, 11, 12, 13, 14, 15, 16, 17, 18, 19, 20, 21, 22, 23, 24, 25, 26, 27, 28, 29, 30] (by decide +kernel) (by decide +kernel)) (goodIn_sub (fun _ h => List.mem_cons_of_mem _ (List.mem_append_right _ h)) (by decide +kernel))
set_option maxRecDepth 20000 in
theorem gL_snapshot_X3_snapshot : GoodIn wsL_snapshot (wsV RL 54 RX3 yX3_snapshot wsX3_snapshot) := goodIn_app (goodIn_of _ (by decide +kernel)) ggL_snapshot_X3_snapshot
theorem dL_snapshot_0 : decode cL_snapshot 0 = .ok (.aload_n 2, 1) := by decide +kernel
theorem dL_snapshot_1 : decode cL_snapshot 1 = .ok (.iconst 0, 1) := by decide +kernel
theorem dL_snapshot_2 : decode cL_snapshot 2 = .ok (.aload_n 0, 1) := by decide +kernel
theorem dL_snapshot_3 : decode cL_snapshot 3 = .ok (.iload_n 1, 1) := by decide +kernel
theorem dL_snapshot_4 : decode cL_snapshot 4 = .ok (.invokevirtual 54, 3) := by decide +kernel
theorem dL_snapshot_7 : decode cL_snapshot 7 = .ok (.i2l, 1) := by decide +kernel
theorem dL_snapshot_8 : decode cL_snapshot 8 = .ok (.lastore, 1) := by decide +kernel
theorem dL_snapshot_9 : decode cL_snapshot 9 = .ok (.goto 6, 3) := by decide +kernel
theorem dL_snapshot_12 : decode cL_snapshot 12 = .ok (.astore_n 3, 1) := by decide +kernel
theorem dL_snapshot_13 : decode cL_snapshot 13 = .ok (.iconst 1, 1) := by decide +kernel
theorem dL_snapshot_14 : decode cL_snapshot 14 = .ok (.ireturn, 1) := by decide +kernel
theorem dL_snapshot_15 : decode cL_snapshot 15 = .ok (.iconst 0, 1) := by decide +kernel
theorem dL_snapshot_16 : decode cL_snapshot 16 = .ok (.ireturn, 1) := by decide +kernel
set_option maxRecDepth 20000 in
theorem ggL_record_X3_record : GoodIn wsL_record wsX3_record := goodIn_ca (goodIn_r _ [6, 7, 8, 9, 10, 11, 12, 5, 13, 14, 15, 16, 17, 18, 19, 20, 21, 22, 23, 24, 25, 26, 27, 28, 29, 30, 31, 32, 33, 34, 35] (by decide +kernel) (by decide +kernel)) (goodIn_sub (fun _ h => List.mem_cons_of_mem _ (List.mem_append_right _ h)) (by decide +kernel))
set_option maxRecDepth 20000 in
theorem gL_record_X3_record : GoodIn wsL_record (wsV RL 57 RX3 yX3_record wsX3_record) := goodIn_app (goodIn_of _ (by decide +kernel)) ggL_record_X3_record
theorem dL_record_0 : decode cL_record 0 = .ok (.aload 4, 2) := by decide +kernel
theorem dL_record_2 : decode cL_record 2 = .ok (.iconst 0, 1) := by decide +kernel
theorem dL_record_3 : decode cL_record 3 = .ok (.aload_n 0, 1) := by decide +kernel
theorem dL_record_4 : decode cL_record 4 = .ok (.iload_n 1, 1) := by decide +kernel
theorem dL_record_5 : decode cL_record 5 = .ok (.iload_n 2, 1) := by decide +kernel
theorem dL_record_6 : decode cL_record 6 = .ok (.iload_n 3, 1) := by decide +kernel
theorem dL_record_7 : decode cL_record 7 = .ok (.invokevirtual 57, 3) := by decide +kernel
theorem dL_record_10 : decode cL_record 10 = .ok (.i2l, 1) := by decide +kernel
theorem dL_record_11 : decode cL_record 11 = .ok (.lastore, 1) := by decide +kernel
theorem dL_record_12 : decode cL_record 12 = .ok (.goto 7, 3) := by decide +kernel
theorem dL_record_15 : decode cL_record 15 = .ok (.astore 5, 2) := by decide +kernel
theorem dL_record_17 : decode cL_record 17 = .ok (.iconst 1, 1) := by decide +kernel
theorem dL_record_18 : decode cL_record 18 = .ok (.ireturn, 1) := by decide +kernel
theorem dL_record_19 : decode cL_record 19 = .ok (.iconst 0, 1) := by decide +kernel
theorem dL_record_20 : decode cL_record 20 = .ok (.ireturn, 1) := by decide +kernel
set_option maxRecDepth 20000 in
theorem ggL_recorded_X3_recorded : GoodIn wsL_recorded wsX3_recorded := goodIn_ca (goodIn_r _ [6, 7, 8, 9, 10, 5, 11, 12, 13, 14, 15, 16, 17, 18, 19, 20, 21, 22, 23, 24, 25, 26, 27, 28, 29, 30, 31, 32, 33, 34, 35] (by decide +kernel) (by decide +kernel)) (goodIn_sub (fun _ h => List.mem_cons_of_mem _ (List.mem_append_right _ h)) (by decide +kernel))
set_option maxRecDepth 20000 in
theorem gL_recorded_X3_recorded : GoodIn wsL_recorded (wsV RL 61 RX3 yX3_recorded wsX3_recorded) := goodIn_app (goodIn_of _ (by decide +kernel)) ggL_recorded_X3_recorded
theorem dL_recorded_0 : decode cL_recorded 0 = .ok (.aload_n 3, 1) := by decide +kernel
theorem dL_recorded_1 : decode cL_recorded 1 = .ok (.iconst 0, 1) := by decide +kernel
theorem dL_recorded_2 : decode cL_recorded 2 = .ok (.aload_n 0, 1) := by decide +kernel
theorem dL_recorded_3 : decode cL_recorded 3 = .ok (.iload_n 1, 1) := by decide +kernel
theorem dL_recorded_4 : decode cL_recorded 4 = .ok (.iload_n 2, 1) := by decide +kernel
theorem dL_recorded_5 : decode cL_recorded 5 = .ok (.invokevirtual 61, 3) := by decide +kernel
theorem dL_recorded_8 : decode cL_recorded 8 = .ok (.f2d, 1) := by decide +kernel
theorem dL_recorded_9 : decode cL_recorded 9 = .ok (.dastore, 1) := by decide +kernel
theorem dL_recorded_10 : decode cL_recorded 10 = .ok (.goto 7, 3) := by decide +kernel
theorem dL_recorded_13 : decode cL_recorded 13 = .ok (.astore 4, 2) := by decide +kernel
theorem dL_recorded_15 : decode cL_recorded 15 = .ok (.iconst 1, 1) := by decide +kernel
theorem dL_recorded_16 : decode cL_recorded 16 = .ok (.ireturn, 1) := by decide +kernel
theorem dL_recorded_17 : decode cL_recorded 17 = .ok (.iconst 0, 1) := by decide +kernel
theorem dL_recorded_18 : decode cL_recorded 18 = .ok (.ireturn, 1) := by decide +kernel
set_option maxRecDepth 20000 in
theorem ggL_count_X3_count : GoodIn wsL_count wsX3_count := goodIn_ca (goodIn_r _ [6, 7, 8, 9, 10, 11, 12, 13, 14, 15, 16, 17, 18, 19, 20, 21, 22, 23, 24, 25, 26, 27, 5, 28, 29, 30, 31, 32, 33, 34, 35, 36, 37, 38, 39, 40, 41, 42, 43, 44, 45, 46, 47, 48] (by decide +kernel) (by decide +kernel)) (goodIn_sub (fun _ h => List.mem_cons_of_mem _ (List.mem_append_right _ h)) (by decide +kernel))
set_option maxRecDepth 20000 in
theorem gL_count_X3_count : GoodIn wsL_count (wsV RL 64 RX3 yX3_count wsX3_count) := goodIn_app (goodIn_of _ (by decide +kernel)) ggL_count_X3_count
theorem dL_count_0 : decode cL_count 0 = .ok (.aload_n 2, 1) := by decide +kernel
theorem dL_count_1 : decode cL_count 1 = .ok (.iconst 0, 1) := by decide +kernel
theorem dL_count_2 : decode cL_count 2 = .ok (.aload_n 0, 1) := by decide +kernel
theorem dL_count_3 : decode cL_count 3 = .ok (.iload_n 1, 1) := by decide +kernel
theorem dL_count_4 : decode cL_count 4 = .ok (.invokevirtual 64, 3) := by decide +kernel
theorem dL_count_7 : decode cL_count 7 = .ok (.i2l, 1) := by decide +kernel
theorem dL_count_8 : decode cL_count 8 = .ok (.lastore, 1) := by decide +kernel
theorem dL_count_9 : decode cL_count 9 = .ok (.goto 6, 3) := by decide +kernel
theorem dL_count_12 : decode cL_count 12 = .ok (.astore_n 3, 1) := by decide +kernel
theorem dL_count_13 : decode cL_count 13 = .ok (.iconst 1, 1) := by decide +kernel
theorem dL_count_14 : decode cL_count 14 = .ok (.ireturn, 1) := by decide +kernel
theorem dL_count_15 : decode cL_count 15 = .ok (.iconst 0, 1) := by decide +kernel
theorem dL_count_16 : decode cL_count 16 = .ok (.ireturn, 1) := by decide +kernel
set_option maxRecDepth 20000 in
theorem ggL_law_L_cell : GoodIn wsL_law wsL_cell := goodIn_r _ [12] (by decide +kernel) (by decide +kernel)
set_option maxRecDepth 20000 in
theorem gL_law_L_cell : GoodIn wsL_law (va_wsS RL 67 yL_cell wsL_cell) := goodIn_app (goodIn_of _ (by decide +kernel)) ggL_law_L_cell
set_option maxRecDepth 20000 in
theorem ggL_law_X3_init : GoodIn wsL_law wsX3_init := goodIn_r _ [15, 16, 17, 18, 19, 20, 21, 22, 23, 24, 25, 26, 27, 28, 29, 30, 31, 32, 33, 34, 35, 36, 37, 38, 39, 40, 41, 42, 43, 44, 45, 46, 47, 48, 49, 50, 51, 52, 53, 450, 451, 452, 453, 454, 455, 456, 475, 476, 477, 478, 479, 480, 481, 482, 483, 484, 485, 486, 487] (by decide +kernel) (by decide +kernel)
set_option maxRecDepth 20000 in
theorem gL_law_X3_init : GoodIn wsL_law (wsX3_init) := ggL_law_X3_init
set_option maxRecDepth 20000 in
theorem ggL_law_X4_init : GoodIn wsL_law wsX4_init := goodIn_r _ [56, 57, 17, 18, 19, 58, 36, 59, 60, 61, 62, 63, 64, 65, 66, 67, 68, 69, 70, 71, 5, 72, 73, 74, 75, 76, 77, 78, 79, 80, 81, 82, 83, 84, 85, 86, 87, 457, 458, 459, 460, 461, 462, 463, 464, 465, 466, 467, 468, 469, 470, 471, 472, 473, 474] (by decide +kernel) (by decide +kernel)
set_option maxRecDepth 20000 in
theorem gL_law_X4_init : GoodIn wsL_law (wsX4_init) := ggL_law_X4_init
set_option maxRecDepth 20000 in
theorem ggL_law_L_drift : GoodIn wsL_law wsL_drift := goodIn_ca (goodIn_ca (goodIn_ca (goodIn_r _ [90, 91, 92, 93, 94, 95, 96, 2, 97, 98, 99, 100, 101, 102, 103, 24, 104, 28, 105, 106, 107, 108, 109, 110, 20, 111, 23, 112, 113, 37, 114, 38, 39, 450, 451, 452, 453, 454, 455, 456, 475, 476, 477, 478, 479, 480, 481, 482, 483] (by decide +kernel) (by decide +kernel)) (goodIn_sub (fun _ h => List.mem_append_left _ (List.mem_append_left _ (List.mem_append_right _ h))) (by decide +kernel))) (goodIn_sub (fun _ h => List.mem_append_left _ (List.mem_append_right _ h)) (by decide +kernel))) (goodIn_sub (fun _ h => List.mem_append_right _ h) (by decide +kernel))
set_option maxRecDepth 20000 in
theorem gL_law_L_drift : GoodIn wsL_law (va_wsS RL 79 yL_drift wsL_drift) := goodIn_app (goodIn_of _ (by decide +kernel)) ggL_law_L_drift
set_option maxRecDepth 20000 in
theorem ggL_law_X4_drift : GoodIn wsL_law wsX4_drift := goodIn_r _ [118, 119, 120, 121, 73, 87, 59, 60, 61, 122, 123, 124, 5, 125, 68, 126, 127, 128, 129, 130, 457, 458, 459, 460, 461, 462, 463, 464, 465, 466, 467, 468, 469, 470, 471, 472, 473, 474] (by decide +kernel) (by decide +kernel)
set_option maxRecDepth 20000 in
theorem gL_law_X4_drift : GoodIn wsL_law (wsV RL 82 RX4 yX4_drift wsX4_drift) := goodIn_app (goodIn_of _ (by decide +kernel)) ggL_law_X4_drift
set_option maxRecDepth 20000 in
theorem ggL_law_X4_thrown : GoodIn wsL_law wsX4_thrown := goodIn_r _ [134, 130, 457, 458, 459, 460, 461, 462, 463, 464, 465, 466, 467, 468, 469, 470, 471, 472, 473, 474] (by decide +kernel) (by decide +kernel)
set_option maxRecDepth 20000 in
theorem gL_law_X4_thrown : GoodIn wsL_law (wsV RL 83 RX4 yX4_thrown wsX4_thrown) := goodIn_app (goodIn_of _ (by decide +kernel)) ggL_law_X4_thrown
set_option maxRecDepth 20000 in
theorem ggL_law_L_every : GoodIn wsL_law wsL_every := goodIn_ca (goodIn_r _ [137, 92, 138, 139, 140, 2, 141, 98, 99, 142, 450, 451, 452, 453, 454, 455, 456] (by decide +kernel) (by decide +kernel)) (goodIn_sub (fun _ h => List.mem_append_left _ (List.mem_append_left _ (List.mem_append_right _ h))) (by decide +kernel))
set_option maxRecDepth 20000 in
theorem gL_law_L_every : GoodIn wsL_law (va_wsS RL 87 yL_every wsL_every) := goodIn_app (goodIn_of _ (by decide +kernel)) ggL_law_L_every
set_option maxRecDepth 20000 in
theorem ggL_law_X4_every : GoodIn wsL_law wsX4_every := goodIn_r _ [146, 147, 126, 127, 128, 5, 129, 130, 457, 458, 459, 460, 461, 462, 463, 464, 465, 466, 467, 468, 469, 470, 471, 472, 473, 474] (by decide +kernel) (by decide +kernel)
set_option maxRecDepth 20000 in
theorem gL_law_X4_every : GoodIn wsL_law (wsV RL 90 RX4 yX4_every wsX4_every) := goodIn_app (goodIn_of _ (by decide +kernel)) ggL_law_X4_every
set_option maxRecDepth 20000 in
theorem ggL_law_L_input : GoodIn wsL_law wsL_input := goodIn_ca (goodIn_ca (goodIn_ca (goodIn_r _ [150, 91, 92, 93, 151, 152, 153, 2, 154, 28, 104, 105, 106, 107, 108, 109, 110, 20, 155, 156, 157, 98, 99, 158, 159, 160, 161, 162, 163, 100, 101, 164, 27, 165, 166, 43, 44, 45, 46, 167, 168, 169, 170, 171, 172, 173, 174, 175, 176, 177, 178, 179, 180, 181, 182, 450, 451, 452, 453, 454, 455, 456, 479, 480, 481, 482, 483] (by decide +kernel) (by decide +kernel)) (goodIn_sub (fun _ h => List.mem_append_right _ h) (by decide +kernel))) (goodIn_sub (fun _ h => List.mem_append_left _ (List.mem_append_left _ (List.mem_append_right _ h))) (by decide +kernel))) (goodIn_sub (fun _ h => List.mem_append_left _ (List.mem_append_right _ h)) (by decide +kernel))
set_option maxRecDepth 20000 in
theorem gL_law_L_input : GoodIn wsL_law (va_wsS RL 91 yL_input wsL_input) := goodIn_app (goodIn_of _ (by decide +kernel)) ggL_law_L_input
set_option maxRecDepth 20000 in
theorem ggL_law_X4_input : GoodIn wsL_law wsX4_input := goodIn_r _ [186, 87, 73, 122, 123, 124, 5, 125, 68, 187, 188, 189, 190, 191, 126, 127, 128, 129, 130, 192, 193, 194, 195, 62, 63, 64, 65, 196, 197, 198, 199, 457, 458, 459, 460, 461, 462, 463, 464, 465, 466, 467, 468, 469, 470, 471, 472, 473, 474] (by decide +kernel) (by decide +kernel)
set_option maxRecDepth 20000 in
theorem gL_law_X4_input : GoodIn wsL_law (wsV RL 93 RX4 yX4_input wsX4_input) := goodIn_app (goodIn_of _ (by decide +kernel)) ggL_law_X4_input
set_option maxRecDepth 20000 in
theorem ggL_law_L_inputs : GoodIn wsL_law wsL_inputs := goodIn_ca (goodIn_ca (goodIn_ca (goodIn_r _ [202, 91, 92, 93, 203, 204, 205, 2, 206, 98, 99, 28, 104, 105, 106, 107, 108, 109, 110, 20, 207, 208, 209, 210, 155, 156, 157, 158, 159, 160, 161, 162, 163, 100, 101, 164, 27, 165, 166, 43, 44, 45, 46, 167, 168, 169, 170, 171, 172, 173, 174, 175, 176, 177, 178, 179, 180, 181, 182, 450, 451, 452, 453, 454, 455, 456, 479, 480, 481, 482, 483] (by decide +kernel) (by decide +kernel)) (goodIn_sub (fun _ h => List.mem_append_left _ (List.mem_append_left _ (List.mem_append_right _ h))) (by decide +kernel))) (goodIn_sub (fun _ h => List.mem_append_right _ h) (by decide +kernel))) (goodIn_sub (fun _ h => List.mem_append_left _ (List.mem_append_right _ h)) (by decide +kernel))
set_option maxRecDepth 20000 in
theorem gL_law_L_inputs : GoodIn wsL_law (va_wsS RL 94 yL_inputs wsL_inputs) := goodIn_app (goodIn_of _ (by decide +kernel)) ggL_law_L_inputs
set_option maxRecDepth 20000 in
theorem ggL_law_X4_inputs : GoodIn wsL_law wsX4_inputs := goodIn_r _ [214, 68, 87, 73, 122, 123, 124, 5, 125, 187, 188, 189, 190, 191, 126, 127, 128, 129, 130, 192, 193, 194, 195, 62, 63, 64, 65, 196, 197, 198, 199, 457, 458, 459, 460, 461, 462, 463, 464, 465, 466, 467, 468, 469, 470, 471, 472, 473, 474] (by decide +kernel) (by decide +kernel)
set_option maxRecDepth 20000 in
theorem gL_law_X4_inputs : GoodIn wsL_law (wsV RL 97 RX4 yX4_inputs wsX4_inputs) := goodIn_app (goodIn_of _ (by decide +kernel)) ggL_law_X4_inputs
set_option maxRecDepth 20000 in
theorem ggL_law_L_step : GoodIn wsL_law wsL_step := goodIn_ca (goodIn_r _ [217, 92, 218, 219, 220, 2, 221, 98, 99, 104, 222, 223, 224, 225, 28, 20, 24, 226, 142, 227, 27, 228, 229, 44, 45, 46, 168, 169, 170, 171, 167, 43, 230, 231, 232, 233, 234, 158, 159, 235, 23, 236, 237, 114, 38, 37, 39, 238, 239, 240, 241, 32, 242, 31, 243, 244, 53, 245, 50, 52, 246, 177, 178, 179, 247, 248, 249, 250, 251, 252, 253, 254, 255, 256, 257, 172, 173, 174, 175, 176, 450, 451, 452, 453, 454, 455, 456, 479, 480, 481, 482, 483, 475, 476, 477, 478, 484, 485, 486, 487] (by decide +kernel) (by decide +kernel)) (goodIn_sub (fun _ h => List.mem_append_left _ (List.mem_append_left _ (List.mem_append_right _ h))) (by decide +kernel))
set_option maxRecDepth 20000 in
theorem gL_law_L_step : GoodIn wsL_law (va_wsS RL 98 yL_step wsL_step) := goodIn_app (goodIn_of _ (by decide +kernel)) ggL_law_L_step
set_option maxRecDepth 20000 in
theorem ggL_law_X4_step : GoodIn wsL_law wsX4_step := goodIn_r _ [261, 73, 126, 127, 128, 5, 129, 130, 262, 263, 264, 265, 87, 62, 121, 58, 60, 59, 61, 266, 147, 267, 268, 269, 270, 63, 64, 65, 271, 272, 273, 190, 191, 69, 70, 71, 72, 74, 66, 68, 67, 75, 76, 77, 78, 79, 80, 81, 82, 83, 84, 85, 86, 457, 458, 459, 460, 461, 462, 463, 464, 465, 466, 467, 468, 469, 470, 471, 472, 473, 474] (by decide +kernel) (by decide +kernel)
set_option maxRecDepth 20000 in
theorem gL_law_X4_step : GoodIn wsL_law (wsV RL 100 RX4 yX4_step wsX4_step) := goodIn_app (goodIn_of _ (by decide +kernel)) ggL_law_X4_step
set_option maxRecDepth 20000 in
theorem ggL_law_X3_keep : GoodIn wsL_law wsX3_keep := goodIn_r _ [277, 32, 238, 239, 240, 2, 241, 104, 20, 28, 242, 31, 243, 244, 53, 245, 50, 52, 246, 177, 178, 179, 247, 248, 249, 250, 251, 252, 253, 254, 255, 27, 256, 257, 167, 168, 169, 170, 171, 43, 172, 173, 174, 175, 176, 44, 45, 46, 450, 451, 452, 453, 454, 455, 456, 484, 485, 486, 487, 479, 480, 481, 482, 483] (by decide +kernel) (by decide +kernel)
set_option maxRecDepth 20000 in
theorem gL_law_X3_keep : GoodIn wsL_law (wsV RL 101 RX3 yX3_keep wsX3_keep) := goodIn_app (goodIn_of _ (by decide +kernel)) ggL_law_X3_keep
set_option maxRecDepth 20000 in
theorem ggL_law_X4_keep : GoodIn wsL_law wsX4_keep := goodIn_r _ [281, 130, 74, 69, 70, 71, 5, 72, 73, 66, 68, 67, 58, 75, 76, 77, 78, 79, 80, 81, 82, 83, 84, 85, 86, 87, 62, 63, 64, 65, 457, 458, 459, 460, 461, 462, 463, 464, 465, 466, 467, 468, 469, 470, 471, 472, 473, 474] (by decide +kernel) (by decide +kernel)
set_option maxRecDepth 20000 in
theorem gL_law_X4_keep : GoodIn wsL_law (wsV RL 104 RX4 yX4_keep wsX4_keep) := goodIn_app (goodIn_of _ (by decide +kernel)) ggL_law_X4_keep
set_option maxRecDepth 20000 in
theorem ggL_law_L_back : GoodIn wsL_law wsL_back := goodIn_ca (goodIn_r _ [284, 91, 285, 286, 287, 2, 288, 289, 290, 291, 292, 109, 110, 32, 293, 31, 294, 295, 296, 297, 298, 299, 53, 247, 248, 249, 250, 50, 251, 252, 253, 254, 245, 300, 301, 302, 303, 20, 304, 177, 178, 179, 104, 305, 306, 307, 52, 308, 309, 310, 450, 451, 452, 453, 454, 455, 456, 484, 485, 486, 487] (by decide +kernel) (by decide +kernel)) (goodIn_sub (fun _ h => List.mem_append_right _ h) (by decide +kernel))
set_option maxRecDepth 20000 in
theorem gL_law_L_back : GoodIn wsL_law (va_wsS RL 105 yL_back wsL_back) := goodIn_app (goodIn_of _ (by decide +kernel)) ggL_law_L_back
set_option maxRecDepth 20000 in
theorem ggL_law_X4_back : GoodIn wsL_law wsX4_back := goodIn_r _ [314, 75, 76, 77, 5, 78, 74, 66, 126, 127, 128, 129, 130, 315, 316, 317, 318, 73, 68, 58, 67, 457, 458, 459, 460, 461, 462, 463, 464, 465, 466, 467, 468, 469, 470, 471, 472, 473, 474] (by decide +kernel) (by decide +kernel)
set_option maxRecDepth 20000 in
theorem gL_law_X4_back : GoodIn wsL_law (wsV RL 107 RX4 yX4_back wsX4_back) := goodIn_app (goodIn_of _ (by decide +kernel)) ggL_law_X4_back
set_option maxRecDepth 20000 in
theorem ggL_law_L_forget : GoodIn wsL_law wsL_forget := goodIn_ca (goodIn_r _ [321, 92, 322, 323, 324, 2, 325, 98, 99, 104, 28, 326, 27, 327, 328, 167, 168, 169, 170, 171, 43, 450, 451, 452, 453, 454, 455, 456, 479, 480, 481, 482, 483] (by decide +kernel) (by decide +kernel)) (goodIn_sub (fun _ h => List.mem_append_left _ (List.mem_append_left _ (List.mem_append_right _ h))) (by decide +kernel))
set_option maxRecDepth 20000 in
theorem gL_law_L_forget : GoodIn wsL_law (va_wsS RL 108 yL_forget wsL_forget) := goodIn_app (goodIn_of _ (by decide +kernel)) ggL_law_L_forget
set_option maxRecDepth 20000 in
theorem ggL_law_X4_forget : GoodIn wsL_law wsX4_forget := goodIn_r _ [332, 73, 333, 126, 127, 128, 5, 129, 130, 83, 84, 85, 86, 87, 62, 63, 64, 65, 457, 458, 459, 460, 461, 462, 463, 464, 465, 466, 467, 468, 469, 470, 471, 472, 473, 474] (by decide +kernel) (by decide +kernel)
set_option maxRecDepth 20000 in
theorem gL_law_X4_forget : GoodIn wsL_law (wsV RL 110 RX4 yX4_forget wsX4_forget) := goodIn_app (goodIn_of _ (by decide +kernel)) ggL_law_X4_forget
set_option maxRecDepth 20000 in
theorem ggL_law_L_late : GoodIn wsL_law wsL_late := goodIn_ca (goodIn_ca (goodIn_ca (goodIn_r _ [336, 91, 92, 93, 337, 338, 339, 2, 340, 98, 99, 100, 101, 104, 32, 28, 105, 106, 107, 108, 109, 110, 20, 155, 156, 157, 158, 159, 160, 161, 162, 163, 297, 31, 298, 299, 53, 247, 248, 249, 250, 50, 251, 252, 253, 254, 245, 164, 27, 165, 166, 43, 44, 45, 46, 167, 168, 169, 170, 171, 172, 173, 174, 175, 176, 177, 178, 179, 341, 342, 343, 344, 300, 301, 302, 303, 304, 305, 306, 307, 52, 308, 309, 310, 222, 223, 224, 225, 24, 226, 142, 227, 228, 229, 230, 231, 232, 233, 234, 235, 23, 236, 237, 114, 38, 37, 39, 238, 239, 240, 241, 242, 243, 244, 246, 255, 256, 257, 450, 451, 452, 453, 454, 455, 456, 479, 480, 481, 482, 483, 484, 485, 486, 487, 475, 476, 477, 478] (by decide +kernel) (by decide +kernel)) (goodIn_sub (fun _ h => List.mem_append_left _ (List.mem_append_left _ (List.mem_append_right _ h))) (by decide +kernel))) (goodIn_sub (fun _ h => List.mem_append_left _ (List.mem_append_right _ h)) (by decide +kernel))) (goodIn_sub (fun _ h => List.mem_append_right _ h) (by decide +kernel))
set_option maxRecDepth 20000 in
theorem gL_law_L_late : GoodIn wsL_law (va_wsS RL 111 yL_late wsL_late) := goodIn_app (goodIn_of _ (by decide +kernel)) ggL_law_L_late
set_option maxRecDepth 20000 in
theorem ggL_law_X4_late : GoodIn wsL_law wsX4_late := goodIn_r _ [348, 73, 87, 349, 350, 351, 5, 352, 74, 66, 122, 123, 124, 125, 68, 187, 188, 189, 190, 191, 126, 127, 128, 129, 130, 192, 193, 194, 195, 62, 63, 64, 65, 315, 316, 317, 318, 58, 67, 262, 263, 264, 265, 121, 60, 59, 61, 266, 147, 267, 268, 269, 270, 271, 272, 273, 69, 70, 71, 72, 75, 76, 77, 78, 79, 80, 81, 82, 83, 84, 85, 86, 457, 458, 459, 460, 461, 462, 463, 464, 465, 466, 467, 468, 469, 470, 471, 472, 473, 474] (by decide +kernel) (by decide +kernel)
set_option maxRecDepth 20000 in
theorem gL_law_X4_late : GoodIn wsL_law (wsV RL 114 RX4 yX4_late wsX4_late) := goodIn_app (goodIn_of _ (by decide +kernel)) ggL_law_X4_late
set_option maxRecDepth 20000 in
theorem ggL_law_L_cell_ : GoodIn wsL_law wsL_cell_ := goodIn_ca (goodIn_r _ [355, 91, 356, 357, 358, 2, 359, 20, 105, 106, 107, 108, 109, 110, 450, 451, 452, 453, 454, 455, 456] (by decide +kernel) (by decide +kernel)) (goodIn_sub (fun _ h => List.mem_append_right _ h) (by decide +kernel))
set_option maxRecDepth 20000 in
theorem gL_law_L_cell_ : GoodIn wsL_law (va_wsS RL 115 yL_cell_ wsL_cell_) := goodIn_app (goodIn_of _ (by decide +kernel)) ggL_law_L_cell_
set_option maxRecDepth 20000 in
theorem ggL_law_X4_cell : GoodIn wsL_law wsX4_cell := goodIn_r _ [363, 58, 122, 123, 124, 5, 125, 68, 126, 127, 128, 129, 130, 457, 458, 459, 460, 461, 462, 463, 464, 465, 466, 467, 468, 469, 470, 471, 472, 473, 474] (by decide +kernel) (by decide +kernel)
set_option maxRecDepth 20000 in
theorem gL_law_X4_cell : GoodIn wsL_law (wsV RL 118 RX4 yX4_cell wsX4_cell) := goodIn_app (goodIn_of _ (by decide +kernel)) ggL_law_X4_cell
set_option maxRecDepth 20000 in
theorem ggL_law_L_kept : GoodIn wsL_law wsL_kept := goodIn_ca (goodIn_r _ [366, 91, 367, 368, 369, 2, 370, 32, 105, 106, 107, 108, 109, 110, 20, 289, 290, 291, 292, 293, 31, 294, 295, 296, 297, 298, 299, 53, 247, 248, 249, 250, 50, 251, 252, 253, 254, 245, 305, 306, 307, 52, 450, 451, 452, 453, 454, 455, 456, 484, 485, 486, 487] (by decide +kernel) (by decide +kernel)) (goodIn_sub (fun _ h => List.mem_append_right _ h) (by decide +kernel))
set_option maxRecDepth 20000 in
theorem gL_law_L_kept : GoodIn wsL_law (va_wsS RL 119 yL_kept wsL_kept) := goodIn_app (goodIn_of _ (by decide +kernel)) ggL_law_L_kept
set_option maxRecDepth 20000 in
theorem ggL_law_X4_kept : GoodIn wsL_law wsX4_kept := goodIn_r _ [374, 67, 75, 76, 77, 5, 78, 74, 66, 122, 123, 124, 125, 68, 126, 127, 128, 129, 130, 457, 458, 459, 460, 461, 462, 463, 464, 465, 466, 467, 468, 469, 470, 471, 472, 473, 474] (by decide +kernel) (by decide +kernel)
set_option maxRecDepth 20000 in
theorem gL_law_X4_kept : GoodIn wsL_law (wsV RL 122 RX4 yX4_kept wsX4_kept) := goodIn_app (goodIn_of _ (by decide +kernel)) ggL_law_X4_kept
set_option maxRecDepth 20000 in
theorem ggL_law_L_differs : GoodIn wsL_law wsL_differs := goodIn_ca (goodIn_r _ [377, 91, 378, 379, 380, 2, 381, 32, 20, 289, 290, 291, 292, 109, 110, 293, 31, 294, 295, 296, 297, 298, 299, 53, 247, 248, 249, 250, 50, 251, 252, 253, 254, 245, 305, 306, 307, 52, 450, 451, 452, 453, 454, 455, 456, 484, 485, 486, 487] (by decide +kernel) (by decide +kernel)) (goodIn_sub (fun _ h => List.mem_append_right _ h) (by decide +kernel))
set_option maxRecDepth 20000 in
theorem gL_law_L_differs : GoodIn wsL_law (va_wsS RL 123 yL_differs wsL_differs) := goodIn_app (goodIn_of _ (by decide +kernel)) ggL_law_L_differs
set_option maxRecDepth 20000 in
theorem ggL_law_X4_differs : GoodIn wsL_law wsX4_differs := goodIn_r _ [385, 68, 58, 67, 75, 76, 77, 5, 78, 74, 66, 126, 127, 128, 129, 130, 457, 458, 459, 460, 461, 462, 463, 464, 465, 466, 467, 468, 469, 470, 471, 472, 473, 474] (by decide +kernel) (by decide +kernel)
set_option maxRecDepth 20000 in
theorem gL_law_X4_differs : GoodIn wsL_law (wsV RL 125 RX4 yX4_differs wsX4_differs) := goodIn_app (goodIn_of _ (by decide +kernel)) ggL_law_X4_differs
set_option maxRecDepth 20000 in
theorem ggL_law_L_snapshot : GoodIn wsL_law wsL_snapshot := goodIn_ca (goodIn_r _ [388, 91, 389, 390, 391, 2, 392, 109, 110, 32, 248, 31, 249, 250, 50, 251, 252, 253, 254, 245, 450, 451, 452, 453, 454, 455, 456, 484, 485, 486, 487] (by decide +kernel) (by decide +kernel)) (goodIn_sub (fun _ h => List.mem_append_right _ h) (by decide +kernel))
set_option maxRecDepth 20000 in
theorem gL_law_L_snapshot : GoodIn wsL_law (va_wsS RL 126 yL_snapshot wsL_snapshot) := goodIn_app (goodIn_of _ (by decide +kernel)) ggL_law_L_snapshot
set_option maxRecDepth 20000 in
theorem ggL_law_X4_snapshot : GoodIn wsL_law wsX4_snapshot := goodIn_r _ [396, 74, 66, 126, 127, 128, 5, 129, 130, 457, 458, 459, 460, 461, 462, 463, 464, 465, 466, 467, 468, 469, 470, 471, 472, 473, 474] (by decide +kernel) (by decide +kernel)
set_option maxRecDepth 20000 in
theorem gL_law_X4_snapshot : GoodIn wsL_law (wsV RL 128 RX4 yX4_snapshot wsX4_snapshot) := goodIn_app (goodIn_of _ (by decide +kernel)) ggL_law_X4_snapshot
set_option maxRecDepth 20000 in
theorem ggL_law_L_record : GoodIn wsL_law wsL_record := goodIn_ca (goodIn_r _ [399, 91, 400, 401, 402, 2, 403, 109, 110, 28, 404, 405, 406, 407, 180, 27, 181, 182, 168, 169, 170, 171, 167, 43, 450, 451, 452, 453, 454, 455, 456, 479, 480, 481, 482, 483] (by decide +kernel) (by decide +kernel)) (goodIn_sub (fun _ h => List.mem_append_right _ h) (by decide +kernel))
set_option maxRecDepth 20000 in
theorem gL_law_L_record : GoodIn wsL_law (va_wsS RL 129 yL_record wsL_record) := goodIn_app (goodIn_of _ (by decide +kernel)) ggL_law_L_record
set_option maxRecDepth 20000 in
theorem ggL_law_X4_record : GoodIn wsL_law wsX4_record := goodIn_r _ [411, 63, 64, 412, 413, 414, 5, 415, 87, 62, 126, 127, 128, 129, 130, 457, 458, 459, 460, 461, 462, 463, 464, 465, 466, 467, 468, 469, 470, 471, 472, 473, 474] (by decide +kernel) (by decide +kernel)
set_option maxRecDepth 20000 in
theorem gL_law_X4_record : GoodIn wsL_law (wsV RL 132 RX4 yX4_record wsX4_record) := goodIn_app (goodIn_of _ (by decide +kernel)) ggL_law_X4_record
set_option maxRecDepth 20000 in
theorem ggL_law_L_recorded : GoodIn wsL_law wsL_recorded := goodIn_ca (goodIn_r _ [418, 91, 419, 420, 421, 2, 422, 28, 404, 405, 406, 407, 109, 110, 180, 27, 181, 182, 168, 169, 170, 171, 167, 43, 450, 451, 452, 453, 454, 455, 456, 479, 480, 481, 482, 483] (by decide +kernel) (by decide +kernel)) (goodIn_sub (fun _ h => List.mem_append_right _ h) (by decide +kernel))
set_option maxRecDepth 20000 in
theorem gL_law_L_recorded : GoodIn wsL_law (va_wsS RL 133 yL_recorded wsL_recorded) := goodIn_app (goodIn_of _ (by decide +kernel)) ggL_law_L_recorded
set_option maxRecDepth 20000 in
theorem ggL_law_X4_recorded : GoodIn wsL_law wsX4_recorded := goodIn_r _ [426, 65, 412, 413, 414, 5, 415, 87, 62, 126, 127, 128, 129, 130, 457, 458, 459, 460, 461, 462, 463, 464, 465, 466, 467, 468, 469, 470, 471, 472, 473, 474] (by decide +kernel) (by decide +kernel)
set_option maxRecDepth 20000 in
theorem gL_law_X4_recorded : GoodIn wsL_law (wsV RL 135 RX4 yX4_recorded wsX4_recorded) := goodIn_app (goodIn_of _ (by decide +kernel)) ggL_law_X4_recorded
set_option maxRecDepth 20000 in
theorem ggL_law_L_count : GoodIn wsL_law wsL_count := goodIn_ca (goodIn_r _ [429, 91, 430, 431, 432, 2, 433, 109, 110, 104, 20, 32, 28, 24, 226, 180, 27, 181, 182, 168, 169, 170, 171, 167, 43, 434, 435, 436, 437, 450, 451, 452, 453, 454, 455, 456, 484, 485, 486, 487, 479, 480, 481, 482, 483, 475, 476, 477, 478] (by decide +kernel) (by decide +kernel)) (goodIn_sub (fun _ h => List.mem_append_right _ h) (by decide +kernel))
set_option maxRecDepth 20000 in
theorem gL_law_L_count : GoodIn wsL_law (va_wsS RL 136 yL_count wsL_count) := goodIn_app (goodIn_of _ (by decide +kernel)) ggL_law_L_count
set_option maxRecDepth 20000 in
theorem ggL_law_X4_count : GoodIn wsL_law wsX4_count := goodIn_r _ [441, 68, 58, 73, 74, 87, 121, 266, 126, 127, 128, 5, 129, 130, 196, 197, 198, 199, 62, 457, 458, 459, 460, 461, 462, 463, 464, 465, 466, 467, 468, 469, 470, 471, 472, 473, 474] (by decide +kernel) (by decide +kernel)
set_option maxRecDepth 20000 in
theorem gL_law_X4_count : GoodIn wsL_law (wsV RL 138 RX4 yX4_count wsX4_count) := goodIn_app (goodIn_of _ (by decide +kernel)) ggL_law_X4_count
set_option maxRecDepth 20000 in
theorem ggL_law_X3_sum : GoodIn wsL_law wsX3_sum := goodIn_r _ [445, 20, 450, 451, 452, 453, 454, 455, 456] (by decide +kernel) (by decide +kernel)
set_option maxRecDepth 20000 in
theorem gL_law_X3_sum : GoodIn wsL_law (wsV RL 139 RX3 yX3_sum wsX3_sum) := goodIn_app (goodIn_of _ (by decide +kernel)) ggL_law_X3_sum
set_option maxRecDepth 20000 in
theorem ggL_law_X4_sum : GoodIn wsL_law wsX4_sum := goodIn_r _ [449, 130, 68, 58, 457, 458, 459, 460, 461, 462, 463, 464, 465, 466, 467, 468, 469, 470, 471, 472, 473, 474] (by decide +kernel) (by decide +kernel)
set_option maxRecDepth 20000 in
theorem gL_law_X4_sum : GoodIn wsL_law (wsV RL 143 RX4 yX4_sum wsX4_sum) := goodIn_app (goodIn_of _ (by decide +kernel)) ggL_law_X4_sum
theorem dL_law_0 : decode cL_law 0 = .ok (.new 8, 3) := by decide +kernel
theorem dL_law_3 : decode cL_law 3 = .ok (.dup, 1) := by decide +kernel
theorem dL_law_4 : decode cL_law 4 = .ok (.aload_n 0, 1) := by decide +kernel
theorem dL_law_5 : decode cL_law 5 = .ok (.iconst 0, 1) := by decide +kernel
theorem dL_law_6 : decode cL_law 6 = .ok (.invokestatic 67, 3) := by decide +kernel
theorem dL_law_9 : decode cL_law 9 = .ok (.invokespecial 72, 3) := by decide +kernel
theorem dL_law_12 : decode cL_law 12 = .ok (.astore_n 1, 1) := by decide +kernel
theorem dL_law_13 : decode cL_law 13 = .ok (.new 75, 3) := by decide +kernel
theorem dL_law_16 : decode cL_law 16 = .ok (.dup, 1) := by decide +kernel
theorem dL_law_17 : decode cL_law 17 = .ok (.aload_n 0, 1) := by decide +kernel
theorem dL_law_18 : decode cL_law 18 = .ok (.iconst 0, 1) := by decide +kernel
theorem dL_law_19 : decode cL_law 19 = .ok (.invokestatic 67, 3) := by decide +kernel
theorem dL_law_22 : decode cL_law 22 = .ok (.invokespecial 77, 3) := by decide +kernel
theorem dL_law_25 : decode cL_law 25 = .ok (.astore_n 2, 1) := by decide +kernel
theorem dL_law_26 : decode cL_law 26 = .ok (.iconst 1, 1) := by decide +kernel
theorem dL_law_27 : decode cL_law 27 = .ok (.newarray .long, 2) := by decide +kernel
theorem dL_law_29 : decode cL_law 29 = .ok (.astore_n 3, 1) := by decide +kernel
theorem dL_law_30 : decode cL_law 30 = .ok (.iconst 1, 1) := by decide +kernel
theorem dL_law_31 : decode cL_law 31 = .ok (.newarray .double, 2) := by decide +kernel
theorem dL_law_33 : decode cL_law 33 = .ok (.astore 4, 2) := by decide +kernel
theorem dL_law_35 : decode cL_law 35 = .ok (.iconst 1, 1) := by decide +kernel
theorem dL_law_36 : decode cL_law 36 = .ok (.istore 5, 2) := by decide +kernel
theorem dL_law_38 : decode cL_law 38 = .ok (.iload 5, 2) := by decide +kernel
theorem dL_law_40 : decode cL_law 40 = .ok (.aload_n 0, 1) := by decide +kernel
theorem dL_law_41 : decode cL_law 41 = .ok (.arraylength, 1) := by decide +kernel
theorem dL_law_42 : decode cL_law 42 = .ok (.bipush 6, 2) := by decide +kernel
theorem dL_law_44 : decode cL_law 44 = .ok (.isub, 1) := by decide +kernel
theorem dL_law_45 : decode cL_law 45 = .ok (.if_icmp .gt 1271, 3) := by decide +kernel
theorem dL_law_48 : decode cL_law 48 = .ok (.aload_n 0, 1) := by decide +kernel
theorem dL_law_49 : decode cL_law 49 = .ok (.iload 5, 2) := by decide +kernel
theorem dL_law_51 : decode cL_law 51 = .ok (.iaload, 1) := by decide +kernel
theorem dL_law_52 : decode cL_law 52 = .ok (.bipush 31, 2) := by decide +kernel
theorem dL_law_54 : decode cL_law 54 = .ok (.iand, 1) := by decide +kernel
theorem dL_law_55 : decode cL_law 55 = .ok (.tableswitch 1255 0 16 #[81, 169, 225, 313, 425, 481, 494, 550, 606, 706, 784, 874, 930, 986, 1066, 1156, 1212], 81) := by decide +kernel
theorem dL_law_136 : decode cL_law 136 = .ok (.aload_n 1, 1) := by decide +kernel
theorem dL_law_137 : decode cL_law 137 = .ok (.aload_n 0, 1) := by decide +kernel
theorem dL_law_138 : decode cL_law 138 = .ok (.iload 5, 2) := by decide +kernel
theorem dL_law_140 : decode cL_law 140 = .ok (.iconst 1, 1) := by decide +kernel
theorem dL_law_141 : decode cL_law 141 = .ok (.iadd, 1) := by decide +kernel
theorem dL_law_142 : decode cL_law 142 = .ok (.iaload, 1) := by decide +kernel
theorem dL_law_143 : decode cL_law 143 = .ok (.aload_n 0, 1) := by decide +kernel
theorem dL_law_144 : decode cL_law 144 = .ok (.iload 5, 2) := by decide +kernel
theorem dL_law_146 : decode cL_law 146 = .ok (.iconst 2, 1) := by decide +kernel
theorem dL_law_147 : decode cL_law 147 = .ok (.iadd, 1) := by decide +kernel
theorem dL_law_148 : decode cL_law 148 = .ok (.iaload, 1) := by decide +kernel
theorem dL_law_149 : decode cL_law 149 = .ok (.aload_n 0, 1) := by decide +kernel
theorem dL_law_150 : decode cL_law 150 = .ok (.iload 5, 2) := by decide +kernel
theorem dL_law_152 : decode cL_law 152 = .ok (.iconst 3, 1) := by decide +kernel
theorem dL_law_153 : decode cL_law 153 = .ok (.iadd, 1) := by decide +kernel
theorem dL_law_154 : decode cL_law 154 = .ok (.iaload, 1) := by decide +kernel
theorem dL_law_155 : decode cL_law 155 = .ok (.i2f, 1) := by decide +kernel
theorem dL_law_156 : decode cL_law 156 = .ok (.ldc 78, 2) := by decide +kernel
theorem dL_law_158 : decode cL_law 158 = .ok (.fmul, 1) := by decide +kernel
theorem dL_law_159 : decode cL_law 159 = .ok (.aload_n 3, 1) := by decide +kernel
theorem dL_law_160 : decode cL_law 160 = .ok (.invokestatic 79, 3) := by decide +kernel
theorem dL_law_163 : decode cL_law 163 = .ok (.istore 6, 2) := by decide +kernel
theorem dL_law_165 : decode cL_law 165 = .ok (.aload_n 2, 1) := by decide +kernel
theorem dL_law_166 : decode cL_law 166 = .ok (.aload_n 0, 1) := by decide +kernel
theorem dL_law_167 : decode cL_law 167 = .ok (.iload 5, 2) := by decide +kernel
theorem dL_law_169 : decode cL_law 169 = .ok (.iconst 1, 1) := by decide +kernel
theorem dL_law_170 : decode cL_law 170 = .ok (.iadd, 1) := by decide +kernel
theorem dL_law_171 : decode cL_law 171 = .ok (.iaload, 1) := by decide +kernel
theorem dL_law_172 : decode cL_law 172 = .ok (.aload_n 0, 1) := by decide +kernel
theorem dL_law_173 : decode cL_law 173 = .ok (.iload 5, 2) := by decide +kernel
theorem dL_law_175 : decode cL_law 175 = .ok (.iconst 2, 1) := by decide +kernel
theorem dL_law_176 : decode cL_law 176 = .ok (.iadd, 1) := by decide +kernel
end
section
theorem dL_law_177 : decode cL_law 177 = .ok (.iaload, 1) := by decide +kernel
theorem dL_law_178 : decode cL_law 178 = .ok (.aload_n 0, 1) := by decide +kernel
theorem dL_law_179 : decode cL_law 179 = .ok (.iload 5, 2) := by decide +kernel
theorem dL_law_181 : decode cL_law 181 = .ok (.iconst 3, 1) := by decide +kernel
theorem dL_law_182 : decode cL_law 182 = .ok (.iadd, 1) := by decide +kernel
theorem dL_law_183 : decode cL_law 183 = .ok (.iaload, 1) := by decide +kernel
theorem dL_law_184 : decode cL_law 184 = .ok (.i2f, 1) := by decide +kernel
theorem dL_law_185 : decode cL_law 185 = .ok (.ldc 78, 2) := by decide +kernel
theorem dL_law_187 : decode cL_law 187 = .ok (.fmul, 1) := by decide +kernel
theorem dL_law_188 : decode cL_law 188 = .ok (.invokevirtual 82, 3) := by decide +kernel
theorem dL_law_191 : decode cL_law 191 = .ok (.istore 7, 2) := by decide +kernel
theorem dL_law_193 : decode cL_law 193 = .ok (.aload_n 2, 1) := by decide +kernel
theorem dL_law_194 : decode cL_law 194 = .ok (.invokevirtual 83, 3) := by decide +kernel
theorem dL_law_197 : decode cL_law 197 = .ok (.iload 6, 2) := by decide +kernel
theorem dL_law_199 : decode cL_law 199 = .ok (.if_icmp .eq 5, 3) := by decide +kernel
theorem dL_law_202 : decode cL_law 202 = .ok (.iconst 0, 1) := by decide +kernel
theorem dL_law_203 : decode cL_law 203 = .ok (.ireturn, 1) := by decide +kernel
theorem dL_law_204 : decode cL_law 204 = .ok (.iload 6, 2) := by decide +kernel
theorem dL_law_206 : decode cL_law 206 = .ok (.ifCond .ne 15, 3) := by decide +kernel
theorem dL_law_209 : decode cL_law 209 = .ok (.aload_n 3, 1) := by decide +kernel
theorem dL_law_210 : decode cL_law 210 = .ok (.iconst 0, 1) := by decide +kernel
theorem dL_law_211 : decode cL_law 211 = .ok (.laload, 1) := by decide +kernel
theorem dL_law_212 : decode cL_law 212 = .ok (.iload 7, 2) := by decide +kernel
theorem dL_law_214 : decode cL_law 214 = .ok (.i2l, 1) := by decide +kernel
theorem dL_law_215 : decode cL_law 215 = .ok (.lcmp, 1) := by decide +kernel
theorem dL_law_216 : decode cL_law 216 = .ok (.ifCond .eq 5, 3) := by decide +kernel
theorem dL_law_219 : decode cL_law 219 = .ok (.iconst 0, 1) := by decide +kernel
theorem dL_law_220 : decode cL_law 220 = .ok (.ireturn, 1) := by decide +kernel
theorem dL_law_221 : decode cL_law 221 = .ok (.goto 1089, 3) := by decide +kernel
theorem dL_law_224 : decode cL_law 224 = .ok (.aload_n 1, 1) := by decide +kernel
theorem dL_law_225 : decode cL_law 225 = .ok (.aload_n 0, 1) := by decide +kernel
theorem dL_law_226 : decode cL_law 226 = .ok (.iload 5, 2) := by decide +kernel
theorem dL_law_228 : decode cL_law 228 = .ok (.iconst 1, 1) := by decide +kernel
theorem dL_law_229 : decode cL_law 229 = .ok (.iadd, 1) := by decide +kernel
theorem dL_law_230 : decode cL_law 230 = .ok (.iaload, 1) := by decide +kernel
theorem dL_law_231 : decode cL_law 231 = .ok (.aload_n 3, 1) := by decide +kernel
theorem dL_law_232 : decode cL_law 232 = .ok (.invokestatic 87, 3) := by decide +kernel
theorem dL_law_235 : decode cL_law 235 = .ok (.istore 6, 2) := by decide +kernel
theorem dL_law_237 : decode cL_law 237 = .ok (.aload_n 2, 1) := by decide +kernel
theorem dL_law_238 : decode cL_law 238 = .ok (.aload_n 0, 1) := by decide +kernel
theorem dL_law_239 : decode cL_law 239 = .ok (.iload 5, 2) := by decide +kernel
theorem dL_law_241 : decode cL_law 241 = .ok (.iconst 1, 1) := by decide +kernel
theorem dL_law_242 : decode cL_law 242 = .ok (.iadd, 1) := by decide +kernel
theorem dL_law_243 : decode cL_law 243 = .ok (.iaload, 1) := by decide +kernel
theorem dL_law_244 : decode cL_law 244 = .ok (.invokevirtual 90, 3) := by decide +kernel
theorem dL_law_247 : decode cL_law 247 = .ok (.istore 7, 2) := by decide +kernel
theorem dL_law_249 : decode cL_law 249 = .ok (.aload_n 2, 1) := by decide +kernel
theorem dL_law_250 : decode cL_law 250 = .ok (.invokevirtual 83, 3) := by decide +kernel
theorem dL_law_253 : decode cL_law 253 = .ok (.iload 6, 2) := by decide +kernel
theorem dL_law_255 : decode cL_law 255 = .ok (.if_icmp .eq 5, 3) := by decide +kernel
theorem dL_law_258 : decode cL_law 258 = .ok (.iconst 0, 1) := by decide +kernel
theorem dL_law_259 : decode cL_law 259 = .ok (.ireturn, 1) := by decide +kernel
theorem dL_law_260 : decode cL_law 260 = .ok (.iload 6, 2) := by decide +kernel
theorem dL_law_262 : decode cL_law 262 = .ok (.ifCond .ne 15, 3) := by decide +kernel
theorem dL_law_265 : decode cL_law 265 = .ok (.aload_n 3, 1) := by decide +kernel
theorem dL_law_266 : decode cL_law 266 = .ok (.iconst 0, 1) := by decide +kernel
theorem dL_law_267 : decode cL_law 267 = .ok (.laload, 1) := by decide +kernel
theorem dL_law_268 : decode cL_law 268 = .ok (.iload 7, 2) := by decide +kernel
theorem dL_law_270 : decode cL_law 270 = .ok (.i2l, 1) := by decide +kernel
theorem dL_law_271 : decode cL_law 271 = .ok (.lcmp, 1) := by decide +kernel
theorem dL_law_272 : decode cL_law 272 = .ok (.ifCond .eq 5, 3) := by decide +kernel
theorem dL_law_275 : decode cL_law 275 = .ok (.iconst 0, 1) := by decide +kernel
theorem dL_law_276 : decode cL_law 276 = .ok (.ireturn, 1) := by decide +kernel
theorem dL_law_277 : decode cL_law 277 = .ok (.goto 1033, 3) := by decide +kernel
theorem dL_law_280 : decode cL_law 280 = .ok (.aload_n 1, 1) := by decide +kernel
theorem dL_law_281 : decode cL_law 281 = .ok (.aload_n 0, 1) := by decide +kernel
theorem dL_law_282 : decode cL_law 282 = .ok (.iload 5, 2) := by decide +kernel
theorem dL_law_284 : decode cL_law 284 = .ok (.iconst 1, 1) := by decide +kernel
theorem dL_law_285 : decode cL_law 285 = .ok (.iadd, 1) := by decide +kernel
theorem dL_law_286 : decode cL_law 286 = .ok (.iaload, 1) := by decide +kernel
theorem dL_law_287 : decode cL_law 287 = .ok (.aload_n 0, 1) := by decide +kernel
theorem dL_law_288 : decode cL_law 288 = .ok (.iload 5, 2) := by decide +kernel
theorem dL_law_290 : decode cL_law 290 = .ok (.iconst 2, 1) := by decide +kernel
theorem dL_law_291 : decode cL_law 291 = .ok (.iadd, 1) := by decide +kernel
theorem dL_law_292 : decode cL_law 292 = .ok (.iaload, 1) := by decide +kernel
theorem dL_law_293 : decode cL_law 293 = .ok (.aload_n 0, 1) := by decide +kernel
theorem dL_law_294 : decode cL_law 294 = .ok (.iload 5, 2) := by decide +kernel
theorem dL_law_296 : decode cL_law 296 = .ok (.iconst 3, 1) := by decide +kernel
theorem dL_law_297 : decode cL_law 297 = .ok (.iadd, 1) := by decide +kernel
theorem dL_law_298 : decode cL_law 298 = .ok (.iaload, 1) := by decide +kernel
theorem dL_law_299 : decode cL_law 299 = .ok (.i2f, 1) := by decide +kernel
theorem dL_law_300 : decode cL_law 300 = .ok (.ldc 78, 2) := by decide +kernel
theorem dL_law_302 : decode cL_law 302 = .ok (.fmul, 1) := by decide +kernel
theorem dL_law_303 : decode cL_law 303 = .ok (.aload_n 3, 1) := by decide +kernel
theorem dL_law_304 : decode cL_law 304 = .ok (.invokestatic 91, 3) := by decide +kernel
theorem dL_law_307 : decode cL_law 307 = .ok (.istore 6, 2) := by decide +kernel
theorem dL_law_309 : decode cL_law 309 = .ok (.aload_n 2, 1) := by decide +kernel
theorem dL_law_310 : decode cL_law 310 = .ok (.aload_n 0, 1) := by decide +kernel
theorem dL_law_311 : decode cL_law 311 = .ok (.iload 5, 2) := by decide +kernel
theorem dL_law_313 : decode cL_law 313 = .ok (.iconst 1, 1) := by decide +kernel
theorem dL_law_314 : decode cL_law 314 = .ok (.iadd, 1) := by decide +kernel
theorem dL_law_315 : decode cL_law 315 = .ok (.iaload, 1) := by decide +kernel
theorem dL_law_316 : decode cL_law 316 = .ok (.aload_n 0, 1) := by decide +kernel
theorem dL_law_317 : decode cL_law 317 = .ok (.iload 5, 2) := by decide +kernel
theorem dL_law_319 : decode cL_law 319 = .ok (.iconst 2, 1) := by decide +kernel
theorem dL_law_320 : decode cL_law 320 = .ok (.iadd, 1) := by decide +kernel
theorem dL_law_321 : decode cL_law 321 = .ok (.iaload, 1) := by decide +kernel
theorem dL_law_322 : decode cL_law 322 = .ok (.aload_n 0, 1) := by decide +kernel
theorem dL_law_323 : decode cL_law 323 = .ok (.iload 5, 2) := by decide +kernel
theorem dL_law_325 : decode cL_law 325 = .ok (.iconst 3, 1) := by decide +kernel
theorem dL_law_326 : decode cL_law 326 = .ok (.iadd, 1) := by decide +kernel
theorem dL_law_327 : decode cL_law 327 = .ok (.iaload, 1) := by decide +kernel
theorem dL_law_328 : decode cL_law 328 = .ok (.i2f, 1) := by decide +kernel
theorem dL_law_329 : decode cL_law 329 = .ok (.ldc 78, 2) := by decide +kernel
theorem dL_law_331 : decode cL_law 331 = .ok (.fmul, 1) := by decide +kernel
theorem dL_law_332 : decode cL_law 332 = .ok (.invokevirtual 93, 3) := by decide +kernel
theorem dL_law_335 : decode cL_law 335 = .ok (.istore 7, 2) := by decide +kernel
theorem dL_law_337 : decode cL_law 337 = .ok (.aload_n 2, 1) := by decide +kernel
theorem dL_law_338 : decode cL_law 338 = .ok (.invokevirtual 83, 3) := by decide +kernel
theorem dL_law_341 : decode cL_law 341 = .ok (.iload 6, 2) := by decide +kernel
theorem dL_law_343 : decode cL_law 343 = .ok (.if_icmp .eq 5, 3) := by decide +kernel
theorem dL_law_346 : decode cL_law 346 = .ok (.iconst 0, 1) := by decide +kernel
theorem dL_law_347 : decode cL_law 347 = .ok (.ireturn, 1) := by decide +kernel
theorem dL_law_348 : decode cL_law 348 = .ok (.iload 6, 2) := by decide +kernel
theorem dL_law_350 : decode cL_law 350 = .ok (.ifCond .ne 15, 3) := by decide +kernel
theorem dL_law_353 : decode cL_law 353 = .ok (.aload_n 3, 1) := by decide +kernel
theorem dL_law_354 : decode cL_law 354 = .ok (.iconst 0, 1) := by decide +kernel
theorem dL_law_355 : decode cL_law 355 = .ok (.laload, 1) := by decide +kernel
theorem dL_law_356 : decode cL_law 356 = .ok (.iload 7, 2) := by decide +kernel
theorem dL_law_358 : decode cL_law 358 = .ok (.i2l, 1) := by decide +kernel
theorem dL_law_359 : decode cL_law 359 = .ok (.lcmp, 1) := by decide +kernel
theorem dL_law_360 : decode cL_law 360 = .ok (.ifCond .eq 5, 3) := by decide +kernel
theorem dL_law_363 : decode cL_law 363 = .ok (.iconst 0, 1) := by decide +kernel
theorem dL_law_364 : decode cL_law 364 = .ok (.ireturn, 1) := by decide +kernel
theorem dL_law_365 : decode cL_law 365 = .ok (.goto 945, 3) := by decide +kernel
theorem dL_law_368 : decode cL_law 368 = .ok (.aload_n 1, 1) := by decide +kernel
theorem dL_law_369 : decode cL_law 369 = .ok (.aload_n 0, 1) := by decide +kernel
theorem dL_law_370 : decode cL_law 370 = .ok (.iload 5, 2) := by decide +kernel
theorem dL_law_372 : decode cL_law 372 = .ok (.iconst 1, 1) := by decide +kernel
theorem dL_law_373 : decode cL_law 373 = .ok (.iadd, 1) := by decide +kernel
theorem dL_law_374 : decode cL_law 374 = .ok (.iaload, 1) := by decide +kernel
theorem dL_law_375 : decode cL_law 375 = .ok (.aload_n 0, 1) := by decide +kernel
theorem dL_law_376 : decode cL_law 376 = .ok (.iload 5, 2) := by decide +kernel
theorem dL_law_378 : decode cL_law 378 = .ok (.iconst 2, 1) := by decide +kernel
theorem dL_law_379 : decode cL_law 379 = .ok (.iadd, 1) := by decide +kernel
theorem dL_law_380 : decode cL_law 380 = .ok (.iaload, 1) := by decide +kernel
theorem dL_law_381 : decode cL_law 381 = .ok (.aload_n 0, 1) := by decide +kernel
theorem dL_law_382 : decode cL_law 382 = .ok (.iload 5, 2) := by decide +kernel
theorem dL_law_384 : decode cL_law 384 = .ok (.iconst 3, 1) := by decide +kernel
theorem dL_law_385 : decode cL_law 385 = .ok (.iadd, 1) := by decide +kernel
theorem dL_law_386 : decode cL_law 386 = .ok (.iaload, 1) := by decide +kernel
theorem dL_law_387 : decode cL_law 387 = .ok (.aload_n 0, 1) := by decide +kernel
theorem dL_law_388 : decode cL_law 388 = .ok (.iload 5, 2) := by decide +kernel
theorem dL_law_390 : decode cL_law 390 = .ok (.iconst 4, 1) := by decide +kernel
theorem dL_law_391 : decode cL_law 391 = .ok (.iadd, 1) := by decide +kernel
theorem dL_law_392 : decode cL_law 392 = .ok (.iaload, 1) := by decide +kernel
theorem dL_law_393 : decode cL_law 393 = .ok (.aload_n 0, 1) := by decide +kernel
theorem dL_law_394 : decode cL_law 394 = .ok (.iload 5, 2) := by decide +kernel
theorem dL_law_396 : decode cL_law 396 = .ok (.iconst 5, 1) := by decide +kernel
theorem dL_law_397 : decode cL_law 397 = .ok (.iadd, 1) := by decide +kernel
theorem dL_law_398 : decode cL_law 398 = .ok (.iaload, 1) := by decide +kernel
theorem dL_law_399 : decode cL_law 399 = .ok (.i2f, 1) := by decide +kernel
theorem dL_law_400 : decode cL_law 400 = .ok (.ldc 78, 2) := by decide +kernel
theorem dL_law_402 : decode cL_law 402 = .ok (.fmul, 1) := by decide +kernel
theorem dL_law_403 : decode cL_law 403 = .ok (.aload_n 3, 1) := by decide +kernel
theorem dL_law_404 : decode cL_law 404 = .ok (.invokestatic 94, 3) := by decide +kernel
theorem dL_law_407 : decode cL_law 407 = .ok (.istore 6, 2) := by decide +kernel
theorem dL_law_409 : decode cL_law 409 = .ok (.aload_n 2, 1) := by decide +kernel
theorem dL_law_410 : decode cL_law 410 = .ok (.aload_n 0, 1) := by decide +kernel
theorem dL_law_411 : decode cL_law 411 = .ok (.iload 5, 2) := by decide +kernel
theorem dL_law_413 : decode cL_law 413 = .ok (.iconst 1, 1) := by decide +kernel
theorem dL_law_414 : decode cL_law 414 = .ok (.iadd, 1) := by decide +kernel
theorem dL_law_415 : decode cL_law 415 = .ok (.iaload, 1) := by decide +kernel
theorem dL_law_416 : decode cL_law 416 = .ok (.aload_n 0, 1) := by decide +kernel
theorem dL_law_417 : decode cL_law 417 = .ok (.iload 5, 2) := by decide +kernel
theorem dL_law_419 : decode cL_law 419 = .ok (.iconst 2, 1) := by decide +kernel
theorem dL_law_420 : decode cL_law 420 = .ok (.iadd, 1) := by decide +kernel
theorem dL_law_421 : decode cL_law 421 = .ok (.iaload, 1) := by decide +kernel
theorem dL_law_422 : decode cL_law 422 = .ok (.aload_n 0, 1) := by decide +kernel
theorem dL_law_423 : decode cL_law 423 = .ok (.iload 5, 2) := by decide +kernel
theorem dL_law_425 : decode cL_law 425 = .ok (.iconst 3, 1) := by decide +kernel
theorem dL_law_426 : decode cL_law 426 = .ok (.iadd, 1) := by decide +kernel
theorem dL_law_427 : decode cL_law 427 = .ok (.iaload, 1) := by decide +kernel
theorem dL_law_428 : decode cL_law 428 = .ok (.aload_n 0, 1) := by decide +kernel
theorem dL_law_429 : decode cL_law 429 = .ok (.iload 5, 2) := by decide +kernel
theorem dL_law_431 : decode cL_law 431 = .ok (.iconst 4, 1) := by decide +kernel
theorem dL_law_432 : decode cL_law 432 = .ok (.iadd, 1) := by decide +kernel
theorem dL_law_433 : decode cL_law 433 = .ok (.iaload, 1) := by decide +kernel
theorem dL_law_434 : decode cL_law 434 = .ok (.aload_n 0, 1) := by decide +kernel
theorem dL_law_435 : decode cL_law 435 = .ok (.iload 5, 2) := by decide +kernel
theorem dL_law_437 : decode cL_law 437 = .ok (.iconst 5, 1) := by decide +kernel
theorem dL_law_438 : decode cL_law 438 = .ok (.iadd, 1) := by decide +kernel
theorem dL_law_439 : decode cL_law 439 = .ok (.iaload, 1) := by decide +kernel
theorem dL_law_440 : decode cL_law 440 = .ok (.i2f, 1) := by decide +kernel
theorem dL_law_441 : decode cL_law 441 = .ok (.ldc 78, 2) := by decide +kernel
theorem dL_law_443 : decode cL_law 443 = .ok (.fmul, 1) := by decide +kernel
theorem dL_law_444 : decode cL_law 444 = .ok (.invokevirtual 97, 3) := by decide +kernel
theorem dL_law_447 : decode cL_law 447 = .ok (.istore 7, 2) := by decide +kernel
theorem dL_law_449 : decode cL_law 449 = .ok (.aload_n 2, 1) := by decide +kernel
theorem dL_law_450 : decode cL_law 450 = .ok (.invokevirtual 83, 3) := by decide +kernel
theorem dL_law_453 : decode cL_law 453 = .ok (.iload 6, 2) := by decide +kernel
theorem dL_law_455 : decode cL_law 455 = .ok (.if_icmp .eq 5, 3) := by decide +kernel
theorem dL_law_458 : decode cL_law 458 = .ok (.iconst 0, 1) := by decide +kernel
theorem dL_law_459 : decode cL_law 459 = .ok (.ireturn, 1) := by decide +kernel
theorem dL_law_460 : decode cL_law 460 = .ok (.iload 6, 2) := by decide +kernel
theorem dL_law_462 : decode cL_law 462 = .ok (.ifCond .ne 15, 3) := by decide +kernel
theorem dL_law_465 : decode cL_law 465 = .ok (.aload_n 3, 1) := by decide +kernel
theorem dL_law_466 : decode cL_law 466 = .ok (.iconst 0, 1) := by decide +kernel
theorem dL_law_467 : decode cL_law 467 = .ok (.laload, 1) := by decide +kernel
theorem dL_law_468 : decode cL_law 468 = .ok (.iload 7, 2) := by decide +kernel
theorem dL_law_470 : decode cL_law 470 = .ok (.i2l, 1) := by decide +kernel
theorem dL_law_471 : decode cL_law 471 = .ok (.lcmp, 1) := by decide +kernel
theorem dL_law_472 : decode cL_law 472 = .ok (.ifCond .eq 5, 3) := by decide +kernel
theorem dL_law_475 : decode cL_law 475 = .ok (.iconst 0, 1) := by decide +kernel
theorem dL_law_476 : decode cL_law 476 = .ok (.ireturn, 1) := by decide +kernel
theorem dL_law_477 : decode cL_law 477 = .ok (.goto 833, 3) := by decide +kernel
theorem dL_law_480 : decode cL_law 480 = .ok (.aload_n 1, 1) := by decide +kernel
theorem dL_law_481 : decode cL_law 481 = .ok (.aload_n 0, 1) := by decide +kernel
theorem dL_law_482 : decode cL_law 482 = .ok (.iload 5, 2) := by decide +kernel
theorem dL_law_484 : decode cL_law 484 = .ok (.iconst 1, 1) := by decide +kernel
theorem dL_law_485 : decode cL_law 485 = .ok (.iadd, 1) := by decide +kernel
theorem dL_law_486 : decode cL_law 486 = .ok (.iaload, 1) := by decide +kernel
theorem dL_law_487 : decode cL_law 487 = .ok (.aload_n 3, 1) := by decide +kernel
theorem dL_law_488 : decode cL_law 488 = .ok (.invokestatic 98, 3) := by decide +kernel
theorem dL_law_491 : decode cL_law 491 = .ok (.istore 6, 2) := by decide +kernel
theorem dL_law_493 : decode cL_law 493 = .ok (.aload_n 2, 1) := by decide +kernel
theorem dL_law_494 : decode cL_law 494 = .ok (.aload_n 0, 1) := by decide +kernel
theorem dL_law_495 : decode cL_law 495 = .ok (.iload 5, 2) := by decide +kernel
theorem dL_law_497 : decode cL_law 497 = .ok (.iconst 1, 1) := by decide +kernel
theorem dL_law_498 : decode cL_law 498 = .ok (.iadd, 1) := by decide +kernel
theorem dL_law_499 : decode cL_law 499 = .ok (.iaload, 1) := by decide +kernel
theorem dL_law_500 : decode cL_law 500 = .ok (.invokevirtual 100, 3) := by decide +kernel
theorem dL_law_503 : decode cL_law 503 = .ok (.istore 7, 2) := by decide +kernel
theorem dL_law_505 : decode cL_law 505 = .ok (.aload_n 2, 1) := by decide +kernel
theorem dL_law_506 : decode cL_law 506 = .ok (.invokevirtual 83, 3) := by decide +kernel
theorem dL_law_509 : decode cL_law 509 = .ok (.iload 6, 2) := by decide +kernel
theorem dL_law_511 : decode cL_law 511 = .ok (.if_icmp .eq 5, 3) := by decide +kernel
theorem dL_law_514 : decode cL_law 514 = .ok (.iconst 0, 1) := by decide +kernel
theorem dL_law_515 : decode cL_law 515 = .ok (.ireturn, 1) := by decide +kernel
theorem dL_law_516 : decode cL_law 516 = .ok (.iload 6, 2) := by decide +kernel
theorem dL_law_518 : decode cL_law 518 = .ok (.ifCond .ne 15, 3) := by decide +kernel
theorem dL_law_521 : decode cL_law 521 = .ok (.aload_n 3, 1) := by decide +kernel
theorem dL_law_522 : decode cL_law 522 = .ok (.iconst 0, 1) := by decide +kernel
theorem dL_law_523 : decode cL_law 523 = .ok (.laload, 1) := by decide +kernel
theorem dL_law_524 : decode cL_law 524 = .ok (.iload 7, 2) := by decide +kernel
theorem dL_law_526 : decode cL_law 526 = .ok (.i2l, 1) := by decide +kernel
theorem dL_law_527 : decode cL_law 527 = .ok (.lcmp, 1) := by decide +kernel
theorem dL_law_528 : decode cL_law 528 = .ok (.ifCond .eq 5, 3) := by decide +kernel
theorem dL_law_531 : decode cL_law 531 = .ok (.iconst 0, 1) := by decide +kernel
theorem dL_law_532 : decode cL_law 532 = .ok (.ireturn, 1) := by decide +kernel
theorem dL_law_533 : decode cL_law 533 = .ok (.goto 777, 3) := by decide +kernel
theorem dL_law_536 : decode cL_law 536 = .ok (.aload_n 1, 1) := by decide +kernel
theorem dL_law_537 : decode cL_law 537 = .ok (.invokevirtual 101, 3) := by decide +kernel
theorem dL_law_540 : decode cL_law 540 = .ok (.aload_n 2, 1) := by decide +kernel
theorem dL_law_541 : decode cL_law 541 = .ok (.invokevirtual 104, 3) := by decide +kernel
theorem dL_law_544 : decode cL_law 544 = .ok (.if_icmp .eq 766, 3) := by decide +kernel
theorem dL_law_547 : decode cL_law 547 = .ok (.iconst 0, 1) := by decide +kernel
theorem dL_law_548 : decode cL_law 548 = .ok (.ireturn, 1) := by decide +kernel
theorem dL_law_549 : decode cL_law 549 = .ok (.aload_n 1, 1) := by decide +kernel
theorem dL_law_550 : decode cL_law 550 = .ok (.aload_n 0, 1) := by decide +kernel
theorem dL_law_551 : decode cL_law 551 = .ok (.iload 5, 2) := by decide +kernel
theorem dL_law_553 : decode cL_law 553 = .ok (.iconst 1, 1) := by decide +kernel
theorem dL_law_554 : decode cL_law 554 = .ok (.iadd, 1) := by decide +kernel
theorem dL_law_555 : decode cL_law 555 = .ok (.iaload, 1) := by decide +kernel
theorem dL_law_556 : decode cL_law 556 = .ok (.aload_n 3, 1) := by decide +kernel
theorem dL_law_557 : decode cL_law 557 = .ok (.invokestatic 105, 3) := by decide +kernel
theorem dL_law_560 : decode cL_law 560 = .ok (.istore 6, 2) := by decide +kernel
theorem dL_law_562 : decode cL_law 562 = .ok (.aload_n 2, 1) := by decide +kernel
theorem dL_law_563 : decode cL_law 563 = .ok (.aload_n 0, 1) := by decide +kernel
theorem dL_law_564 : decode cL_law 564 = .ok (.iload 5, 2) := by decide +kernel
theorem dL_law_566 : decode cL_law 566 = .ok (.iconst 1, 1) := by decide +kernel
theorem dL_law_567 : decode cL_law 567 = .ok (.iadd, 1) := by decide +kernel
theorem dL_law_568 : decode cL_law 568 = .ok (.iaload, 1) := by decide +kernel
theorem dL_law_569 : decode cL_law 569 = .ok (.invokevirtual 107, 3) := by decide +kernel
theorem dL_law_572 : decode cL_law 572 = .ok (.istore 7, 2) := by decide +kernel
theorem dL_law_574 : decode cL_law 574 = .ok (.aload_n 2, 1) := by decide +kernel
theorem dL_law_575 : decode cL_law 575 = .ok (.invokevirtual 83, 3) := by decide +kernel
theorem dL_law_578 : decode cL_law 578 = .ok (.iload 6, 2) := by decide +kernel
theorem dL_law_580 : decode cL_law 580 = .ok (.if_icmp .eq 5, 3) := by decide +kernel
theorem dL_law_583 : decode cL_law 583 = .ok (.iconst 0, 1) := by decide +kernel
theorem dL_law_584 : decode cL_law 584 = .ok (.ireturn, 1) := by decide +kernel
theorem dL_law_585 : decode cL_law 585 = .ok (.iload 6, 2) := by decide +kernel
theorem dL_law_587 : decode cL_law 587 = .ok (.ifCond .ne 15, 3) := by decide +kernel
theorem dL_law_590 : decode cL_law 590 = .ok (.aload_n 3, 1) := by decide +kernel
theorem dL_law_591 : decode cL_law 591 = .ok (.iconst 0, 1) := by decide +kernel
theorem dL_law_592 : decode cL_law 592 = .ok (.laload, 1) := by decide +kernel
theorem dL_law_593 : decode cL_law 593 = .ok (.iload 7, 2) := by decide +kernel
theorem dL_law_595 : decode cL_law 595 = .ok (.i2l, 1) := by decide +kernel
theorem dL_law_596 : decode cL_law 596 = .ok (.lcmp, 1) := by decide +kernel
theorem dL_law_597 : decode cL_law 597 = .ok (.ifCond .eq 5, 3) := by decide +kernel
theorem dL_law_600 : decode cL_law 600 = .ok (.iconst 0, 1) := by decide +kernel
theorem dL_law_601 : decode cL_law 601 = .ok (.ireturn, 1) := by decide +kernel
theorem dL_law_602 : decode cL_law 602 = .ok (.goto 708, 3) := by decide +kernel
theorem dL_law_605 : decode cL_law 605 = .ok (.aload_n 1, 1) := by decide +kernel
theorem dL_law_606 : decode cL_law 606 = .ok (.aload_n 0, 1) := by decide +kernel
theorem dL_law_607 : decode cL_law 607 = .ok (.iload 5, 2) := by decide +kernel
theorem dL_law_609 : decode cL_law 609 = .ok (.iconst 1, 1) := by decide +kernel
theorem dL_law_610 : decode cL_law 610 = .ok (.iadd, 1) := by decide +kernel
theorem dL_law_611 : decode cL_law 611 = .ok (.iaload, 1) := by decide +kernel
theorem dL_law_612 : decode cL_law 612 = .ok (.aload_n 3, 1) := by decide +kernel
theorem dL_law_613 : decode cL_law 613 = .ok (.invokestatic 108, 3) := by decide +kernel
theorem dL_law_616 : decode cL_law 616 = .ok (.istore 6, 2) := by decide +kernel
theorem dL_law_618 : decode cL_law 618 = .ok (.aload_n 2, 1) := by decide +kernel
theorem dL_law_619 : decode cL_law 619 = .ok (.aload_n 0, 1) := by decide +kernel
theorem dL_law_620 : decode cL_law 620 = .ok (.iload 5, 2) := by decide +kernel
theorem dL_law_622 : decode cL_law 622 = .ok (.iconst 1, 1) := by decide +kernel
theorem dL_law_623 : decode cL_law 623 = .ok (.iadd, 1) := by decide +kernel
theorem dL_law_624 : decode cL_law 624 = .ok (.iaload, 1) := by decide +kernel
theorem dL_law_625 : decode cL_law 625 = .ok (.invokevirtual 110, 3) := by decide +kernel
theorem dL_law_628 : decode cL_law 628 = .ok (.istore 7, 2) := by decide +kernel
end
section
theorem dL_law_630 : decode cL_law 630 = .ok (.aload_n 2, 1) := by decide +kernel
theorem dL_law_631 : decode cL_law 631 = .ok (.invokevirtual 83, 3) := by decide +kernel
theorem dL_law_634 : decode cL_law 634 = .ok (.iload 6, 2) := by decide +kernel
theorem dL_law_636 : decode cL_law 636 = .ok (.if_icmp .eq 5, 3) := by decide +kernel
theorem dL_law_639 : decode cL_law 639 = .ok (.iconst 0, 1) := by decide +kernel
theorem dL_law_640 : decode cL_law 640 = .ok (.ireturn, 1) := by decide +kernel
theorem dL_law_641 : decode cL_law 641 = .ok (.iload 6, 2) := by decide +kernel
theorem dL_law_643 : decode cL_law 643 = .ok (.ifCond .ne 15, 3) := by decide +kernel
theorem dL_law_646 : decode cL_law 646 = .ok (.aload_n 3, 1) := by decide +kernel
theorem dL_law_647 : decode cL_law 647 = .ok (.iconst 0, 1) := by decide +kernel
theorem dL_law_648 : decode cL_law 648 = .ok (.laload, 1) := by decide +kernel
theorem dL_law_649 : decode cL_law 649 = .ok (.iload 7, 2) := by decide +kernel
theorem dL_law_651 : decode cL_law 651 = .ok (.i2l, 1) := by decide +kernel
theorem dL_law_652 : decode cL_law 652 = .ok (.lcmp, 1) := by decide +kernel
theorem dL_law_653 : decode cL_law 653 = .ok (.ifCond .eq 5, 3) := by decide +kernel
theorem dL_law_656 : decode cL_law 656 = .ok (.iconst 0, 1) := by decide +kernel
theorem dL_law_657 : decode cL_law 657 = .ok (.ireturn, 1) := by decide +kernel
theorem dL_law_658 : decode cL_law 658 = .ok (.goto 652, 3) := by decide +kernel
theorem dL_law_661 : decode cL_law 661 = .ok (.aload_n 1, 1) := by decide +kernel
theorem dL_law_662 : decode cL_law 662 = .ok (.aload_n 0, 1) := by decide +kernel
theorem dL_law_663 : decode cL_law 663 = .ok (.iload 5, 2) := by decide +kernel
theorem dL_law_665 : decode cL_law 665 = .ok (.iconst 1, 1) := by decide +kernel
theorem dL_law_666 : decode cL_law 666 = .ok (.iadd, 1) := by decide +kernel
theorem dL_law_667 : decode cL_law 667 = .ok (.iaload, 1) := by decide +kernel
theorem dL_law_668 : decode cL_law 668 = .ok (.aload_n 0, 1) := by decide +kernel
theorem dL_law_669 : decode cL_law 669 = .ok (.iload 5, 2) := by decide +kernel
theorem dL_law_671 : decode cL_law 671 = .ok (.iconst 2, 1) := by decide +kernel
theorem dL_law_672 : decode cL_law 672 = .ok (.iadd, 1) := by decide +kernel
theorem dL_law_673 : decode cL_law 673 = .ok (.iaload, 1) := by decide +kernel
theorem dL_law_674 : decode cL_law 674 = .ok (.aload_n 0, 1) := by decide +kernel
theorem dL_law_675 : decode cL_law 675 = .ok (.iload 5, 2) := by decide +kernel
theorem dL_law_677 : decode cL_law 677 = .ok (.iconst 3, 1) := by decide +kernel
theorem dL_law_678 : decode cL_law 678 = .ok (.iadd, 1) := by decide +kernel
theorem dL_law_679 : decode cL_law 679 = .ok (.iaload, 1) := by decide +kernel
theorem dL_law_680 : decode cL_law 680 = .ok (.aload_n 0, 1) := by decide +kernel
theorem dL_law_681 : decode cL_law 681 = .ok (.iload 5, 2) := by decide +kernel
theorem dL_law_683 : decode cL_law 683 = .ok (.iconst 4, 1) := by decide +kernel
theorem dL_law_684 : decode cL_law 684 = .ok (.iadd, 1) := by decide +kernel
theorem dL_law_685 : decode cL_law 685 = .ok (.iaload, 1) := by decide +kernel
theorem dL_law_686 : decode cL_law 686 = .ok (.i2f, 1) := by decide +kernel
theorem dL_law_687 : decode cL_law 687 = .ok (.ldc 78, 2) := by decide +kernel
theorem dL_law_689 : decode cL_law 689 = .ok (.fmul, 1) := by decide +kernel
theorem dL_law_690 : decode cL_law 690 = .ok (.aload_n 3, 1) := by decide +kernel
theorem dL_law_691 : decode cL_law 691 = .ok (.invokestatic 111, 3) := by decide +kernel
theorem dL_law_694 : decode cL_law 694 = .ok (.istore 6, 2) := by decide +kernel
theorem dL_law_696 : decode cL_law 696 = .ok (.aload_n 2, 1) := by decide +kernel
theorem dL_law_697 : decode cL_law 697 = .ok (.aload_n 0, 1) := by decide +kernel
theorem dL_law_698 : decode cL_law 698 = .ok (.iload 5, 2) := by decide +kernel
theorem dL_law_700 : decode cL_law 700 = .ok (.iconst 1, 1) := by decide +kernel
theorem dL_law_701 : decode cL_law 701 = .ok (.iadd, 1) := by decide +kernel
theorem dL_law_702 : decode cL_law 702 = .ok (.iaload, 1) := by decide +kernel
theorem dL_law_703 : decode cL_law 703 = .ok (.aload_n 0, 1) := by decide +kernel
theorem dL_law_704 : decode cL_law 704 = .ok (.iload 5, 2) := by decide +kernel
theorem dL_law_706 : decode cL_law 706 = .ok (.iconst 2, 1) := by decide +kernel
theorem dL_law_707 : decode cL_law 707 = .ok (.iadd, 1) := by decide +kernel
theorem dL_law_708 : decode cL_law 708 = .ok (.iaload, 1) := by decide +kernel
theorem dL_law_709 : decode cL_law 709 = .ok (.aload_n 0, 1) := by decide +kernel
theorem dL_law_710 : decode cL_law 710 = .ok (.iload 5, 2) := by decide +kernel
theorem dL_law_712 : decode cL_law 712 = .ok (.iconst 3, 1) := by decide +kernel
theorem dL_law_713 : decode cL_law 713 = .ok (.iadd, 1) := by decide +kernel
theorem dL_law_714 : decode cL_law 714 = .ok (.iaload, 1) := by decide +kernel
theorem dL_law_715 : decode cL_law 715 = .ok (.aload_n 0, 1) := by decide +kernel
theorem dL_law_716 : decode cL_law 716 = .ok (.iload 5, 2) := by decide +kernel
theorem dL_law_718 : decode cL_law 718 = .ok (.iconst 4, 1) := by decide +kernel
theorem dL_law_719 : decode cL_law 719 = .ok (.iadd, 1) := by decide +kernel
theorem dL_law_720 : decode cL_law 720 = .ok (.iaload, 1) := by decide +kernel
theorem dL_law_721 : decode cL_law 721 = .ok (.i2f, 1) := by decide +kernel
theorem dL_law_722 : decode cL_law 722 = .ok (.ldc 78, 2) := by decide +kernel
theorem dL_law_724 : decode cL_law 724 = .ok (.fmul, 1) := by decide +kernel
theorem dL_law_725 : decode cL_law 725 = .ok (.invokevirtual 114, 3) := by decide +kernel
theorem dL_law_728 : decode cL_law 728 = .ok (.istore 7, 2) := by decide +kernel
theorem dL_law_730 : decode cL_law 730 = .ok (.aload_n 2, 1) := by decide +kernel
theorem dL_law_731 : decode cL_law 731 = .ok (.invokevirtual 83, 3) := by decide +kernel
theorem dL_law_734 : decode cL_law 734 = .ok (.iload 6, 2) := by decide +kernel
theorem dL_law_736 : decode cL_law 736 = .ok (.if_icmp .eq 5, 3) := by decide +kernel
theorem dL_law_739 : decode cL_law 739 = .ok (.iconst 0, 1) := by decide +kernel
theorem dL_law_740 : decode cL_law 740 = .ok (.ireturn, 1) := by decide +kernel
theorem dL_law_741 : decode cL_law 741 = .ok (.iload 6, 2) := by decide +kernel
theorem dL_law_743 : decode cL_law 743 = .ok (.ifCond .ne 15, 3) := by decide +kernel
theorem dL_law_746 : decode cL_law 746 = .ok (.aload_n 3, 1) := by decide +kernel
theorem dL_law_747 : decode cL_law 747 = .ok (.iconst 0, 1) := by decide +kernel
theorem dL_law_748 : decode cL_law 748 = .ok (.laload, 1) := by decide +kernel
theorem dL_law_749 : decode cL_law 749 = .ok (.iload 7, 2) := by decide +kernel
theorem dL_law_751 : decode cL_law 751 = .ok (.i2l, 1) := by decide +kernel
theorem dL_law_752 : decode cL_law 752 = .ok (.lcmp, 1) := by decide +kernel
theorem dL_law_753 : decode cL_law 753 = .ok (.ifCond .eq 5, 3) := by decide +kernel
theorem dL_law_756 : decode cL_law 756 = .ok (.iconst 0, 1) := by decide +kernel
theorem dL_law_757 : decode cL_law 757 = .ok (.ireturn, 1) := by decide +kernel
theorem dL_law_758 : decode cL_law 758 = .ok (.goto 552, 3) := by decide +kernel
theorem dL_law_761 : decode cL_law 761 = .ok (.aload_n 1, 1) := by decide +kernel
theorem dL_law_762 : decode cL_law 762 = .ok (.aload_n 0, 1) := by decide +kernel
theorem dL_law_763 : decode cL_law 763 = .ok (.iload 5, 2) := by decide +kernel
theorem dL_law_765 : decode cL_law 765 = .ok (.iconst 1, 1) := by decide +kernel
theorem dL_law_766 : decode cL_law 766 = .ok (.iadd, 1) := by decide +kernel
theorem dL_law_767 : decode cL_law 767 = .ok (.iaload, 1) := by decide +kernel
theorem dL_law_768 : decode cL_law 768 = .ok (.aload 4, 2) := by decide +kernel
theorem dL_law_770 : decode cL_law 770 = .ok (.invokestatic 115, 3) := by decide +kernel
theorem dL_law_773 : decode cL_law 773 = .ok (.istore 6, 2) := by decide +kernel
theorem dL_law_775 : decode cL_law 775 = .ok (.aload_n 2, 1) := by decide +kernel
theorem dL_law_776 : decode cL_law 776 = .ok (.aload_n 0, 1) := by decide +kernel
theorem dL_law_777 : decode cL_law 777 = .ok (.iload 5, 2) := by decide +kernel
theorem dL_law_779 : decode cL_law 779 = .ok (.iconst 1, 1) := by decide +kernel
theorem dL_law_780 : decode cL_law 780 = .ok (.iadd, 1) := by decide +kernel
theorem dL_law_781 : decode cL_law 781 = .ok (.iaload, 1) := by decide +kernel
theorem dL_law_782 : decode cL_law 782 = .ok (.invokevirtual 118, 3) := by decide +kernel
theorem dL_law_785 : decode cL_law 785 = .ok (.fstore 7, 2) := by decide +kernel
theorem dL_law_787 : decode cL_law 787 = .ok (.aload_n 2, 1) := by decide +kernel
theorem dL_law_788 : decode cL_law 788 = .ok (.invokevirtual 83, 3) := by decide +kernel
theorem dL_law_791 : decode cL_law 791 = .ok (.iload 6, 2) := by decide +kernel
theorem dL_law_793 : decode cL_law 793 = .ok (.if_icmp .eq 5, 3) := by decide +kernel
theorem dL_law_796 : decode cL_law 796 = .ok (.iconst 0, 1) := by decide +kernel
theorem dL_law_797 : decode cL_law 797 = .ok (.ireturn, 1) := by decide +kernel
theorem dL_law_798 : decode cL_law 798 = .ok (.iload 6, 2) := by decide +kernel
theorem dL_law_800 : decode cL_law 800 = .ok (.ifCond .ne 36, 3) := by decide +kernel
theorem dL_law_803 : decode cL_law 803 = .ok (.aload 4, 2) := by decide +kernel
theorem dL_law_805 : decode cL_law 805 = .ok (.iconst 0, 1) := by decide +kernel
theorem dL_law_806 : decode cL_law 806 = .ok (.daload, 1) := by decide +kernel
theorem dL_law_807 : decode cL_law 807 = .ok (.fload 7, 2) := by decide +kernel
theorem dL_law_809 : decode cL_law 809 = .ok (.f2d, 1) := by decide +kernel
theorem dL_law_810 : decode cL_law 810 = .ok (.dcmp .l, 1) := by decide +kernel
theorem dL_law_811 : decode cL_law 811 = .ok (.ifCond .eq 25, 3) := by decide +kernel
theorem dL_law_814 : decode cL_law 814 = .ok (.aload 4, 2) := by decide +kernel
theorem dL_law_816 : decode cL_law 816 = .ok (.iconst 0, 1) := by decide +kernel
theorem dL_law_817 : decode cL_law 817 = .ok (.daload, 1) := by decide +kernel
theorem dL_law_818 : decode cL_law 818 = .ok (.aload 4, 2) := by decide +kernel
theorem dL_law_820 : decode cL_law 820 = .ok (.iconst 0, 1) := by decide +kernel
theorem dL_law_821 : decode cL_law 821 = .ok (.daload, 1) := by decide +kernel
theorem dL_law_822 : decode cL_law 822 = .ok (.dcmp .l, 1) := by decide +kernel
theorem dL_law_823 : decode cL_law 823 = .ok (.ifCond .eq 11, 3) := by decide +kernel
theorem dL_law_826 : decode cL_law 826 = .ok (.fload 7, 2) := by decide +kernel
theorem dL_law_828 : decode cL_law 828 = .ok (.fload 7, 2) := by decide +kernel
theorem dL_law_830 : decode cL_law 830 = .ok (.fcmp .l, 1) := by decide +kernel
theorem dL_law_831 : decode cL_law 831 = .ok (.ifCond .ne 5, 3) := by decide +kernel
theorem dL_law_834 : decode cL_law 834 = .ok (.iconst 0, 1) := by decide +kernel
theorem dL_law_835 : decode cL_law 835 = .ok (.ireturn, 1) := by decide +kernel
theorem dL_law_836 : decode cL_law 836 = .ok (.goto 474, 3) := by decide +kernel
theorem dL_law_839 : decode cL_law 839 = .ok (.aload_n 1, 1) := by decide +kernel
theorem dL_law_840 : decode cL_law 840 = .ok (.aload_n 0, 1) := by decide +kernel
theorem dL_law_841 : decode cL_law 841 = .ok (.iload 5, 2) := by decide +kernel
theorem dL_law_843 : decode cL_law 843 = .ok (.iconst 1, 1) := by decide +kernel
theorem dL_law_844 : decode cL_law 844 = .ok (.iadd, 1) := by decide +kernel
theorem dL_law_845 : decode cL_law 845 = .ok (.iaload, 1) := by decide +kernel
theorem dL_law_846 : decode cL_law 846 = .ok (.aload_n 0, 1) := by decide +kernel
theorem dL_law_847 : decode cL_law 847 = .ok (.iload 5, 2) := by decide +kernel
theorem dL_law_849 : decode cL_law 849 = .ok (.iconst 2, 1) := by decide +kernel
theorem dL_law_850 : decode cL_law 850 = .ok (.iadd, 1) := by decide +kernel
theorem dL_law_851 : decode cL_law 851 = .ok (.iaload, 1) := by decide +kernel
theorem dL_law_852 : decode cL_law 852 = .ok (.aload 4, 2) := by decide +kernel
theorem dL_law_854 : decode cL_law 854 = .ok (.invokestatic 119, 3) := by decide +kernel
theorem dL_law_857 : decode cL_law 857 = .ok (.istore 6, 2) := by decide +kernel
theorem dL_law_859 : decode cL_law 859 = .ok (.aload_n 2, 1) := by decide +kernel
theorem dL_law_860 : decode cL_law 860 = .ok (.aload_n 0, 1) := by decide +kernel
theorem dL_law_861 : decode cL_law 861 = .ok (.iload 5, 2) := by decide +kernel
theorem dL_law_863 : decode cL_law 863 = .ok (.iconst 1, 1) := by decide +kernel
theorem dL_law_864 : decode cL_law 864 = .ok (.iadd, 1) := by decide +kernel
theorem dL_law_865 : decode cL_law 865 = .ok (.iaload, 1) := by decide +kernel
theorem dL_law_866 : decode cL_law 866 = .ok (.aload_n 0, 1) := by decide +kernel
theorem dL_law_867 : decode cL_law 867 = .ok (.iload 5, 2) := by decide +kernel
theorem dL_law_869 : decode cL_law 869 = .ok (.iconst 2, 1) := by decide +kernel
theorem dL_law_870 : decode cL_law 870 = .ok (.iadd, 1) := by decide +kernel
theorem dL_law_871 : decode cL_law 871 = .ok (.iaload, 1) := by decide +kernel
theorem dL_law_872 : decode cL_law 872 = .ok (.invokevirtual 122, 3) := by decide +kernel
theorem dL_law_875 : decode cL_law 875 = .ok (.fstore 7, 2) := by decide +kernel
theorem dL_law_877 : decode cL_law 877 = .ok (.aload_n 2, 1) := by decide +kernel
theorem dL_law_878 : decode cL_law 878 = .ok (.invokevirtual 83, 3) := by decide +kernel
theorem dL_law_881 : decode cL_law 881 = .ok (.iload 6, 2) := by decide +kernel
theorem dL_law_883 : decode cL_law 883 = .ok (.if_icmp .eq 5, 3) := by decide +kernel
theorem dL_law_886 : decode cL_law 886 = .ok (.iconst 0, 1) := by decide +kernel
theorem dL_law_887 : decode cL_law 887 = .ok (.ireturn, 1) := by decide +kernel
theorem dL_law_888 : decode cL_law 888 = .ok (.iload 6, 2) := by decide +kernel
theorem dL_law_890 : decode cL_law 890 = .ok (.ifCond .ne 36, 3) := by decide +kernel
theorem dL_law_893 : decode cL_law 893 = .ok (.aload 4, 2) := by decide +kernel
theorem dL_law_895 : decode cL_law 895 = .ok (.iconst 0, 1) := by decide +kernel
theorem dL_law_896 : decode cL_law 896 = .ok (.daload, 1) := by decide +kernel
theorem dL_law_897 : decode cL_law 897 = .ok (.fload 7, 2) := by decide +kernel
theorem dL_law_899 : decode cL_law 899 = .ok (.f2d, 1) := by decide +kernel
theorem dL_law_900 : decode cL_law 900 = .ok (.dcmp .l, 1) := by decide +kernel
theorem dL_law_901 : decode cL_law 901 = .ok (.ifCond .eq 25, 3) := by decide +kernel
theorem dL_law_904 : decode cL_law 904 = .ok (.aload 4, 2) := by decide +kernel
theorem dL_law_906 : decode cL_law 906 = .ok (.iconst 0, 1) := by decide +kernel
theorem dL_law_907 : decode cL_law 907 = .ok (.daload, 1) := by decide +kernel
theorem dL_law_908 : decode cL_law 908 = .ok (.aload 4, 2) := by decide +kernel
theorem dL_law_910 : decode cL_law 910 = .ok (.iconst 0, 1) := by decide +kernel
theorem dL_law_911 : decode cL_law 911 = .ok (.daload, 1) := by decide +kernel
theorem dL_law_912 : decode cL_law 912 = .ok (.dcmp .l, 1) := by decide +kernel
theorem dL_law_913 : decode cL_law 913 = .ok (.ifCond .eq 11, 3) := by decide +kernel
theorem dL_law_916 : decode cL_law 916 = .ok (.fload 7, 2) := by decide +kernel
theorem dL_law_918 : decode cL_law 918 = .ok (.fload 7, 2) := by decide +kernel
theorem dL_law_920 : decode cL_law 920 = .ok (.fcmp .l, 1) := by decide +kernel
theorem dL_law_921 : decode cL_law 921 = .ok (.ifCond .ne 5, 3) := by decide +kernel
theorem dL_law_924 : decode cL_law 924 = .ok (.iconst 0, 1) := by decide +kernel
theorem dL_law_925 : decode cL_law 925 = .ok (.ireturn, 1) := by decide +kernel
theorem dL_law_926 : decode cL_law 926 = .ok (.goto 384, 3) := by decide +kernel
theorem dL_law_929 : decode cL_law 929 = .ok (.aload_n 1, 1) := by decide +kernel
theorem dL_law_930 : decode cL_law 930 = .ok (.aload_n 0, 1) := by decide +kernel
theorem dL_law_931 : decode cL_law 931 = .ok (.iload 5, 2) := by decide +kernel
theorem dL_law_933 : decode cL_law 933 = .ok (.iconst 1, 1) := by decide +kernel
theorem dL_law_934 : decode cL_law 934 = .ok (.iadd, 1) := by decide +kernel
theorem dL_law_935 : decode cL_law 935 = .ok (.iaload, 1) := by decide +kernel
theorem dL_law_936 : decode cL_law 936 = .ok (.aload_n 3, 1) := by decide +kernel
theorem dL_law_937 : decode cL_law 937 = .ok (.invokestatic 123, 3) := by decide +kernel
theorem dL_law_940 : decode cL_law 940 = .ok (.istore 6, 2) := by decide +kernel
theorem dL_law_942 : decode cL_law 942 = .ok (.aload_n 2, 1) := by decide +kernel
theorem dL_law_943 : decode cL_law 943 = .ok (.aload_n 0, 1) := by decide +kernel
theorem dL_law_944 : decode cL_law 944 = .ok (.iload 5, 2) := by decide +kernel
theorem dL_law_946 : decode cL_law 946 = .ok (.iconst 1, 1) := by decide +kernel
theorem dL_law_947 : decode cL_law 947 = .ok (.iadd, 1) := by decide +kernel
theorem dL_law_948 : decode cL_law 948 = .ok (.iaload, 1) := by decide +kernel
theorem dL_law_949 : decode cL_law 949 = .ok (.invokevirtual 125, 3) := by decide +kernel
theorem dL_law_952 : decode cL_law 952 = .ok (.istore 7, 2) := by decide +kernel
theorem dL_law_954 : decode cL_law 954 = .ok (.aload_n 2, 1) := by decide +kernel
theorem dL_law_955 : decode cL_law 955 = .ok (.invokevirtual 83, 3) := by decide +kernel
theorem dL_law_958 : decode cL_law 958 = .ok (.iload 6, 2) := by decide +kernel
theorem dL_law_960 : decode cL_law 960 = .ok (.if_icmp .eq 5, 3) := by decide +kernel
theorem dL_law_963 : decode cL_law 963 = .ok (.iconst 0, 1) := by decide +kernel
theorem dL_law_964 : decode cL_law 964 = .ok (.ireturn, 1) := by decide +kernel
theorem dL_law_965 : decode cL_law 965 = .ok (.iload 6, 2) := by decide +kernel
theorem dL_law_967 : decode cL_law 967 = .ok (.ifCond .ne 15, 3) := by decide +kernel
theorem dL_law_970 : decode cL_law 970 = .ok (.aload_n 3, 1) := by decide +kernel
theorem dL_law_971 : decode cL_law 971 = .ok (.iconst 0, 1) := by decide +kernel
theorem dL_law_972 : decode cL_law 972 = .ok (.laload, 1) := by decide +kernel
theorem dL_law_973 : decode cL_law 973 = .ok (.iload 7, 2) := by decide +kernel
theorem dL_law_975 : decode cL_law 975 = .ok (.i2l, 1) := by decide +kernel
theorem dL_law_976 : decode cL_law 976 = .ok (.lcmp, 1) := by decide +kernel
theorem dL_law_977 : decode cL_law 977 = .ok (.ifCond .eq 5, 3) := by decide +kernel
theorem dL_law_980 : decode cL_law 980 = .ok (.iconst 0, 1) := by decide +kernel
theorem dL_law_981 : decode cL_law 981 = .ok (.ireturn, 1) := by decide +kernel
theorem dL_law_982 : decode cL_law 982 = .ok (.goto 328, 3) := by decide +kernel
theorem dL_law_985 : decode cL_law 985 = .ok (.aload_n 1, 1) := by decide +kernel
theorem dL_law_986 : decode cL_law 986 = .ok (.aload_n 0, 1) := by decide +kernel
theorem dL_law_987 : decode cL_law 987 = .ok (.iload 5, 2) := by decide +kernel
theorem dL_law_989 : decode cL_law 989 = .ok (.iconst 1, 1) := by decide +kernel
theorem dL_law_990 : decode cL_law 990 = .ok (.iadd, 1) := by decide +kernel
theorem dL_law_991 : decode cL_law 991 = .ok (.iaload, 1) := by decide +kernel
theorem dL_law_992 : decode cL_law 992 = .ok (.aload_n 3, 1) := by decide +kernel
theorem dL_law_993 : decode cL_law 993 = .ok (.invokestatic 126, 3) := by decide +kernel
theorem dL_law_996 : decode cL_law 996 = .ok (.istore 6, 2) := by decide +kernel
theorem dL_law_998 : decode cL_law 998 = .ok (.aload_n 2, 1) := by decide +kernel
theorem dL_law_999 : decode cL_law 999 = .ok (.aload_n 0, 1) := by decide +kernel
theorem dL_law_1000 : decode cL_law 1000 = .ok (.iload 5, 2) := by decide +kernel
theorem dL_law_1002 : decode cL_law 1002 = .ok (.iconst 1, 1) := by decide +kernel
theorem dL_law_1003 : decode cL_law 1003 = .ok (.iadd, 1) := by decide +kernel
theorem dL_law_1004 : decode cL_law 1004 = .ok (.iaload, 1) := by decide +kernel
theorem dL_law_1005 : decode cL_law 1005 = .ok (.invokevirtual 128, 3) := by decide +kernel
theorem dL_law_1008 : decode cL_law 1008 = .ok (.istore 7, 2) := by decide +kernel
theorem dL_law_1010 : decode cL_law 1010 = .ok (.aload_n 2, 1) := by decide +kernel
theorem dL_law_1011 : decode cL_law 1011 = .ok (.invokevirtual 83, 3) := by decide +kernel
theorem dL_law_1014 : decode cL_law 1014 = .ok (.iload 6, 2) := by decide +kernel
theorem dL_law_1016 : decode cL_law 1016 = .ok (.if_icmp .eq 5, 3) := by decide +kernel
theorem dL_law_1019 : decode cL_law 1019 = .ok (.iconst 0, 1) := by decide +kernel
theorem dL_law_1020 : decode cL_law 1020 = .ok (.ireturn, 1) := by decide +kernel
theorem dL_law_1021 : decode cL_law 1021 = .ok (.iload 6, 2) := by decide +kernel
theorem dL_law_1023 : decode cL_law 1023 = .ok (.ifCond .ne 15, 3) := by decide +kernel
theorem dL_law_1026 : decode cL_law 1026 = .ok (.aload_n 3, 1) := by decide +kernel
theorem dL_law_1027 : decode cL_law 1027 = .ok (.iconst 0, 1) := by decide +kernel
theorem dL_law_1028 : decode cL_law 1028 = .ok (.laload, 1) := by decide +kernel
theorem dL_law_1029 : decode cL_law 1029 = .ok (.iload 7, 2) := by decide +kernel
theorem dL_law_1031 : decode cL_law 1031 = .ok (.i2l, 1) := by decide +kernel
theorem dL_law_1032 : decode cL_law 1032 = .ok (.lcmp, 1) := by decide +kernel
theorem dL_law_1033 : decode cL_law 1033 = .ok (.ifCond .eq 5, 3) := by decide +kernel
theorem dL_law_1036 : decode cL_law 1036 = .ok (.iconst 0, 1) := by decide +kernel
theorem dL_law_1037 : decode cL_law 1037 = .ok (.ireturn, 1) := by decide +kernel
theorem dL_law_1038 : decode cL_law 1038 = .ok (.goto 272, 3) := by decide +kernel
theorem dL_law_1041 : decode cL_law 1041 = .ok (.aload_n 1, 1) := by decide +kernel
theorem dL_law_1042 : decode cL_law 1042 = .ok (.aload_n 0, 1) := by decide +kernel
theorem dL_law_1043 : decode cL_law 1043 = .ok (.iload 5, 2) := by decide +kernel
theorem dL_law_1045 : decode cL_law 1045 = .ok (.iconst 1, 1) := by decide +kernel
theorem dL_law_1046 : decode cL_law 1046 = .ok (.iadd, 1) := by decide +kernel
theorem dL_law_1047 : decode cL_law 1047 = .ok (.iaload, 1) := by decide +kernel
theorem dL_law_1048 : decode cL_law 1048 = .ok (.aload_n 0, 1) := by decide +kernel
theorem dL_law_1049 : decode cL_law 1049 = .ok (.iload 5, 2) := by decide +kernel
theorem dL_law_1051 : decode cL_law 1051 = .ok (.iconst 2, 1) := by decide +kernel
theorem dL_law_1052 : decode cL_law 1052 = .ok (.iadd, 1) := by decide +kernel
theorem dL_law_1053 : decode cL_law 1053 = .ok (.iaload, 1) := by decide +kernel
theorem dL_law_1054 : decode cL_law 1054 = .ok (.aload_n 0, 1) := by decide +kernel
theorem dL_law_1055 : decode cL_law 1055 = .ok (.iload 5, 2) := by decide +kernel
theorem dL_law_1057 : decode cL_law 1057 = .ok (.iconst 3, 1) := by decide +kernel
theorem dL_law_1058 : decode cL_law 1058 = .ok (.iadd, 1) := by decide +kernel
theorem dL_law_1059 : decode cL_law 1059 = .ok (.iaload, 1) := by decide +kernel
theorem dL_law_1060 : decode cL_law 1060 = .ok (.aload_n 3, 1) := by decide +kernel
theorem dL_law_1061 : decode cL_law 1061 = .ok (.invokestatic 129, 3) := by decide +kernel
theorem dL_law_1064 : decode cL_law 1064 = .ok (.istore 6, 2) := by decide +kernel
theorem dL_law_1066 : decode cL_law 1066 = .ok (.aload_n 2, 1) := by decide +kernel
theorem dL_law_1067 : decode cL_law 1067 = .ok (.aload_n 0, 1) := by decide +kernel
theorem dL_law_1068 : decode cL_law 1068 = .ok (.iload 5, 2) := by decide +kernel
theorem dL_law_1070 : decode cL_law 1070 = .ok (.iconst 1, 1) := by decide +kernel
theorem dL_law_1071 : decode cL_law 1071 = .ok (.iadd, 1) := by decide +kernel
theorem dL_law_1072 : decode cL_law 1072 = .ok (.iaload, 1) := by decide +kernel
theorem dL_law_1073 : decode cL_law 1073 = .ok (.aload_n 0, 1) := by decide +kernel
theorem dL_law_1074 : decode cL_law 1074 = .ok (.iload 5, 2) := by decide +kernel
theorem dL_law_1076 : decode cL_law 1076 = .ok (.iconst 2, 1) := by decide +kernel
theorem dL_law_1077 : decode cL_law 1077 = .ok (.iadd, 1) := by decide +kernel
theorem dL_law_1078 : decode cL_law 1078 = .ok (.iaload, 1) := by decide +kernel
theorem dL_law_1079 : decode cL_law 1079 = .ok (.aload_n 0, 1) := by decide +kernel
theorem dL_law_1080 : decode cL_law 1080 = .ok (.iload 5, 2) := by decide +kernel
theorem dL_law_1082 : decode cL_law 1082 = .ok (.iconst 3, 1) := by decide +kernel
theorem dL_law_1083 : decode cL_law 1083 = .ok (.iadd, 1) := by decide +kernel
theorem dL_law_1084 : decode cL_law 1084 = .ok (.iaload, 1) := by decide +kernel
theorem dL_law_1085 : decode cL_law 1085 = .ok (.invokevirtual 132, 3) := by decide +kernel
theorem dL_law_1088 : decode cL_law 1088 = .ok (.istore 7, 2) := by decide +kernel
end
section
theorem dL_law_1090 : decode cL_law 1090 = .ok (.aload_n 2, 1) := by decide +kernel
theorem dL_law_1091 : decode cL_law 1091 = .ok (.invokevirtual 83, 3) := by decide +kernel
theorem dL_law_1094 : decode cL_law 1094 = .ok (.iload 6, 2) := by decide +kernel
theorem dL_law_1096 : decode cL_law 1096 = .ok (.if_icmp .eq 5, 3) := by decide +kernel
theorem dL_law_1099 : decode cL_law 1099 = .ok (.iconst 0, 1) := by decide +kernel
theorem dL_law_1100 : decode cL_law 1100 = .ok (.ireturn, 1) := by decide +kernel
theorem dL_law_1101 : decode cL_law 1101 = .ok (.iload 6, 2) := by decide +kernel
theorem dL_law_1103 : decode cL_law 1103 = .ok (.ifCond .ne 15, 3) := by decide +kernel
theorem dL_law_1106 : decode cL_law 1106 = .ok (.aload_n 3, 1) := by decide +kernel
theorem dL_law_1107 : decode cL_law 1107 = .ok (.iconst 0, 1) := by decide +kernel
theorem dL_law_1108 : decode cL_law 1108 = .ok (.laload, 1) := by decide +kernel
theorem dL_law_1109 : decode cL_law 1109 = .ok (.iload 7, 2) := by decide +kernel
theorem dL_law_1111 : decode cL_law 1111 = .ok (.i2l, 1) := by decide +kernel
theorem dL_law_1112 : decode cL_law 1112 = .ok (.lcmp, 1) := by decide +kernel
theorem dL_law_1113 : decode cL_law 1113 = .ok (.ifCond .eq 5, 3) := by decide +kernel
theorem dL_law_1116 : decode cL_law 1116 = .ok (.iconst 0, 1) := by decide +kernel
theorem dL_law_1117 : decode cL_law 1117 = .ok (.ireturn, 1) := by decide +kernel
theorem dL_law_1118 : decode cL_law 1118 = .ok (.goto 192, 3) := by decide +kernel
theorem dL_law_1121 : decode cL_law 1121 = .ok (.aload_n 1, 1) := by decide +kernel
theorem dL_law_1122 : decode cL_law 1122 = .ok (.aload_n 0, 1) := by decide +kernel
theorem dL_law_1123 : decode cL_law 1123 = .ok (.iload 5, 2) := by decide +kernel
theorem dL_law_1125 : decode cL_law 1125 = .ok (.iconst 1, 1) := by decide +kernel
theorem dL_law_1126 : decode cL_law 1126 = .ok (.iadd, 1) := by decide +kernel
theorem dL_law_1127 : decode cL_law 1127 = .ok (.iaload, 1) := by decide +kernel
theorem dL_law_1128 : decode cL_law 1128 = .ok (.aload_n 0, 1) := by decide +kernel
theorem dL_law_1129 : decode cL_law 1129 = .ok (.iload 5, 2) := by decide +kernel
theorem dL_law_1131 : decode cL_law 1131 = .ok (.iconst 2, 1) := by decide +kernel
theorem dL_law_1132 : decode cL_law 1132 = .ok (.iadd, 1) := by decide +kernel
theorem dL_law_1133 : decode cL_law 1133 = .ok (.iaload, 1) := by decide +kernel
theorem dL_law_1134 : decode cL_law 1134 = .ok (.aload 4, 2) := by decide +kernel
theorem dL_law_1136 : decode cL_law 1136 = .ok (.invokestatic 133, 3) := by decide +kernel
theorem dL_law_1139 : decode cL_law 1139 = .ok (.istore 6, 2) := by decide +kernel
theorem dL_law_1141 : decode cL_law 1141 = .ok (.aload_n 2, 1) := by decide +kernel
theorem dL_law_1142 : decode cL_law 1142 = .ok (.aload_n 0, 1) := by decide +kernel
theorem dL_law_1143 : decode cL_law 1143 = .ok (.iload 5, 2) := by decide +kernel
theorem dL_law_1145 : decode cL_law 1145 = .ok (.iconst 1, 1) := by decide +kernel
theorem dL_law_1146 : decode cL_law 1146 = .ok (.iadd, 1) := by decide +kernel
theorem dL_law_1147 : decode cL_law 1147 = .ok (.iaload, 1) := by decide +kernel
theorem dL_law_1148 : decode cL_law 1148 = .ok (.aload_n 0, 1) := by decide +kernel
theorem dL_law_1149 : decode cL_law 1149 = .ok (.iload 5, 2) := by decide +kernel
theorem dL_law_1151 : decode cL_law 1151 = .ok (.iconst 2, 1) := by decide +kernel
theorem dL_law_1152 : decode cL_law 1152 = .ok (.iadd, 1) := by decide +kernel
theorem dL_law_1153 : decode cL_law 1153 = .ok (.iaload, 1) := by decide +kernel
theorem dL_law_1154 : decode cL_law 1154 = .ok (.invokevirtual 135, 3) := by decide +kernel
theorem dL_law_1157 : decode cL_law 1157 = .ok (.fstore 7, 2) := by decide +kernel
theorem dL_law_1159 : decode cL_law 1159 = .ok (.aload_n 2, 1) := by decide +kernel
theorem dL_law_1160 : decode cL_law 1160 = .ok (.invokevirtual 83, 3) := by decide +kernel
theorem dL_law_1163 : decode cL_law 1163 = .ok (.iload 6, 2) := by decide +kernel
theorem dL_law_1165 : decode cL_law 1165 = .ok (.if_icmp .eq 5, 3) := by decide +kernel
theorem dL_law_1168 : decode cL_law 1168 = .ok (.iconst 0, 1) := by decide +kernel
theorem dL_law_1169 : decode cL_law 1169 = .ok (.ireturn, 1) := by decide +kernel
theorem dL_law_1170 : decode cL_law 1170 = .ok (.iload 6, 2) := by decide +kernel
theorem dL_law_1172 : decode cL_law 1172 = .ok (.ifCond .ne 36, 3) := by decide +kernel
theorem dL_law_1175 : decode cL_law 1175 = .ok (.aload 4, 2) := by decide +kernel
theorem dL_law_1177 : decode cL_law 1177 = .ok (.iconst 0, 1) := by decide +kernel
theorem dL_law_1178 : decode cL_law 1178 = .ok (.daload, 1) := by decide +kernel
theorem dL_law_1179 : decode cL_law 1179 = .ok (.fload 7, 2) := by decide +kernel
theorem dL_law_1181 : decode cL_law 1181 = .ok (.f2d, 1) := by decide +kernel
theorem dL_law_1182 : decode cL_law 1182 = .ok (.dcmp .l, 1) := by decide +kernel
theorem dL_law_1183 : decode cL_law 1183 = .ok (.ifCond .eq 25, 3) := by decide +kernel
theorem dL_law_1186 : decode cL_law 1186 = .ok (.aload 4, 2) := by decide +kernel
theorem dL_law_1188 : decode cL_law 1188 = .ok (.iconst 0, 1) := by decide +kernel
theorem dL_law_1189 : decode cL_law 1189 = .ok (.daload, 1) := by decide +kernel
theorem dL_law_1190 : decode cL_law 1190 = .ok (.aload 4, 2) := by decide +kernel
theorem dL_law_1192 : decode cL_law 1192 = .ok (.iconst 0, 1) := by decide +kernel
theorem dL_law_1193 : decode cL_law 1193 = .ok (.daload, 1) := by decide +kernel
theorem dL_law_1194 : decode cL_law 1194 = .ok (.dcmp .l, 1) := by decide +kernel
theorem dL_law_1195 : decode cL_law 1195 = .ok (.ifCond .eq 11, 3) := by decide +kernel
theorem dL_law_1198 : decode cL_law 1198 = .ok (.fload 7, 2) := by decide +kernel
theorem dL_law_1200 : decode cL_law 1200 = .ok (.fload 7, 2) := by decide +kernel
theorem dL_law_1202 : decode cL_law 1202 = .ok (.fcmp .l, 1) := by decide +kernel
theorem dL_law_1203 : decode cL_law 1203 = .ok (.ifCond .ne 5, 3) := by decide +kernel
theorem dL_law_1206 : decode cL_law 1206 = .ok (.iconst 0, 1) := by decide +kernel
theorem dL_law_1207 : decode cL_law 1207 = .ok (.ireturn, 1) := by decide +kernel
theorem dL_law_1208 : decode cL_law 1208 = .ok (.goto 102, 3) := by decide +kernel
theorem dL_law_1211 : decode cL_law 1211 = .ok (.aload_n 1, 1) := by decide +kernel
theorem dL_law_1212 : decode cL_law 1212 = .ok (.aload_n 0, 1) := by decide +kernel
theorem dL_law_1213 : decode cL_law 1213 = .ok (.iload 5, 2) := by decide +kernel
theorem dL_law_1215 : decode cL_law 1215 = .ok (.iconst 1, 1) := by decide +kernel
theorem dL_law_1216 : decode cL_law 1216 = .ok (.iadd, 1) := by decide +kernel
theorem dL_law_1217 : decode cL_law 1217 = .ok (.iaload, 1) := by decide +kernel
theorem dL_law_1218 : decode cL_law 1218 = .ok (.aload_n 3, 1) := by decide +kernel
theorem dL_law_1219 : decode cL_law 1219 = .ok (.invokestatic 136, 3) := by decide +kernel
theorem dL_law_1222 : decode cL_law 1222 = .ok (.istore 6, 2) := by decide +kernel
theorem dL_law_1224 : decode cL_law 1224 = .ok (.aload_n 2, 1) := by decide +kernel
theorem dL_law_1225 : decode cL_law 1225 = .ok (.aload_n 0, 1) := by decide +kernel
theorem dL_law_1226 : decode cL_law 1226 = .ok (.iload 5, 2) := by decide +kernel
theorem dL_law_1228 : decode cL_law 1228 = .ok (.iconst 1, 1) := by decide +kernel
theorem dL_law_1229 : decode cL_law 1229 = .ok (.iadd, 1) := by decide +kernel
theorem dL_law_1230 : decode cL_law 1230 = .ok (.iaload, 1) := by decide +kernel
theorem dL_law_1231 : decode cL_law 1231 = .ok (.invokevirtual 138, 3) := by decide +kernel
theorem dL_law_1234 : decode cL_law 1234 = .ok (.istore 7, 2) := by decide +kernel
theorem dL_law_1236 : decode cL_law 1236 = .ok (.aload_n 2, 1) := by decide +kernel
theorem dL_law_1237 : decode cL_law 1237 = .ok (.invokevirtual 83, 3) := by decide +kernel
theorem dL_law_1240 : decode cL_law 1240 = .ok (.iload 6, 2) := by decide +kernel
theorem dL_law_1242 : decode cL_law 1242 = .ok (.if_icmp .eq 5, 3) := by decide +kernel
theorem dL_law_1245 : decode cL_law 1245 = .ok (.iconst 0, 1) := by decide +kernel
theorem dL_law_1246 : decode cL_law 1246 = .ok (.ireturn, 1) := by decide +kernel
theorem dL_law_1247 : decode cL_law 1247 = .ok (.iload 6, 2) := by decide +kernel
theorem dL_law_1249 : decode cL_law 1249 = .ok (.ifCond .ne 15, 3) := by decide +kernel
theorem dL_law_1252 : decode cL_law 1252 = .ok (.aload_n 3, 1) := by decide +kernel
theorem dL_law_1253 : decode cL_law 1253 = .ok (.iconst 0, 1) := by decide +kernel
theorem dL_law_1254 : decode cL_law 1254 = .ok (.laload, 1) := by decide +kernel
theorem dL_law_1255 : decode cL_law 1255 = .ok (.iload 7, 2) := by decide +kernel
theorem dL_law_1257 : decode cL_law 1257 = .ok (.i2l, 1) := by decide +kernel
theorem dL_law_1258 : decode cL_law 1258 = .ok (.lcmp, 1) := by decide +kernel
theorem dL_law_1259 : decode cL_law 1259 = .ok (.ifCond .eq 5, 3) := by decide +kernel
theorem dL_law_1262 : decode cL_law 1262 = .ok (.iconst 0, 1) := by decide +kernel
theorem dL_law_1263 : decode cL_law 1263 = .ok (.ireturn, 1) := by decide +kernel
theorem dL_law_1264 : decode cL_law 1264 = .ok (.goto 46, 3) := by decide +kernel
theorem dL_law_1267 : decode cL_law 1267 = .ok (.aload_n 1, 1) := by decide +kernel
theorem dL_law_1268 : decode cL_law 1268 = .ok (.invokevirtual 139, 3) := by decide +kernel
theorem dL_law_1271 : decode cL_law 1271 = .ok (.f2d, 1) := by decide +kernel
theorem dL_law_1272 : decode cL_law 1272 = .ok (.dstore 6, 2) := by decide +kernel
theorem dL_law_1274 : decode cL_law 1274 = .ok (.aload_n 2, 1) := by decide +kernel
theorem dL_law_1275 : decode cL_law 1275 = .ok (.invokevirtual 143, 3) := by decide +kernel
theorem dL_law_1278 : decode cL_law 1278 = .ok (.f2d, 1) := by decide +kernel
theorem dL_law_1279 : decode cL_law 1279 = .ok (.dstore 8, 2) := by decide +kernel
theorem dL_law_1281 : decode cL_law 1281 = .ok (.dload 6, 2) := by decide +kernel
theorem dL_law_1283 : decode cL_law 1283 = .ok (.dload 8, 2) := by decide +kernel
theorem dL_law_1285 : decode cL_law 1285 = .ok (.dcmp .l, 1) := by decide +kernel
theorem dL_law_1286 : decode cL_law 1286 = .ok (.ifCond .eq 21, 3) := by decide +kernel
theorem dL_law_1289 : decode cL_law 1289 = .ok (.dload 6, 2) := by decide +kernel
theorem dL_law_1291 : decode cL_law 1291 = .ok (.dload 6, 2) := by decide +kernel
theorem dL_law_1293 : decode cL_law 1293 = .ok (.dcmp .l, 1) := by decide +kernel
theorem dL_law_1294 : decode cL_law 1294 = .ok (.ifCond .eq 11, 3) := by decide +kernel
theorem dL_law_1297 : decode cL_law 1297 = .ok (.dload 8, 2) := by decide +kernel
theorem dL_law_1299 : decode cL_law 1299 = .ok (.dload 8, 2) := by decide +kernel
theorem dL_law_1301 : decode cL_law 1301 = .ok (.dcmp .l, 1) := by decide +kernel
theorem dL_law_1302 : decode cL_law 1302 = .ok (.ifCond .ne 5, 3) := by decide +kernel
theorem dL_law_1305 : decode cL_law 1305 = .ok (.iconst 0, 1) := by decide +kernel
theorem dL_law_1306 : decode cL_law 1306 = .ok (.ireturn, 1) := by decide +kernel
theorem dL_law_1307 : decode cL_law 1307 = .ok (.goto 3, 3) := by decide +kernel
theorem dL_law_1310 : decode cL_law 1310 = .ok (.iinc 5 6, 3) := by decide +kernel
theorem dL_law_1313 : decode cL_law 1313 = .ok (.goto (-1275), 3) := by decide +kernel
theorem dL_law_1316 : decode cL_law 1316 = .ok (.iconst 1, 1) := by decide +kernel
theorem dL_law_1317 : decode cL_law 1317 = .ok (.ireturn, 1) := by decide +kernel
abbrev vwCl : List vw_C := [(RX0, TX0, 4), (RX1, TX1, 5), (RX2, TX2, 4), (RX3, TX3, 7), (RX4, TX4, 18)]
end
section
/-! the room of a method d calls deep; what every method's start says of the machine; contexts -/
abbrev rmk (d mc ms : Nat) : Room := { frames := d, cells := mc, slots := ms, locals := 36 * d }
/-- links of private members among nest mates -/
def am_nm : List (String × Nat × MethodName) := [(RX3, 15, yX0_init), (RX3, 22, yX1_init), (RX3, 29, yX2_init), (RX3, 167, yX2_take), (RX3, 131, yX2_stepOf), (RX3, 171, yX1_dropBelow), (RX3, 63, yX0_append), (RX3, 79, yX1_append), (RX3, 82, yX1_sizeOf), (RX3, 159, yX1_putIn), (RX1, 47, yX3_held), (RX3, 163, yX0_flow), (RX0, 26, yX3_held), (RX3, 195, yX2_find), (RX3, 122, yX2_row), (RX3, 180, yX2_dropBehind), (RX3, 109, yX1_dropFrom), (RX3, 114, yX2_highestNotAbove), (RX3, 202, yX1_sizeBelow)]
def am_nf : List (String × Nat × String × String × String) := [(RX3, 48, RX0, "size", "I"), (RX3, 138, RX1, "targets", "[I"), (RX3, 142, RX1, "ways", "[I"), (RX3, 147, RX1, "numbers", "[F"), (RX3, 60, RX1, "size", "I"), (RX3, 100, RX2, "size", "I")]
def am_str : List (Nat × String) := [(183, "no such cell"), (43, "factor is not -4 .. 4"), (54, "there are 64 drifts"), (61, "the world has begun"), (67, "n is not 0 .. 100"), (187, "way is not 0 .. 2"), (191, "v is not -65536 .. 65536"), (193, "more than 512 inputs would be in the record"), (86, "count is not 1 .. 256"), (185, "one of the others is no cell"), (92, "n is not 1 .. 64"), (198, "no snapshot of this step"), (107, "step is below T"), (112, "step is not 0 .. T"), (117, "there is no snapshot to step from"), (128, "no such snapshot"), (200, "no such input of this step"), (145, "what is not 0 .. 1"), (157, "what is not 0 .. 7")]
abbrev eI : String := "java/lang/IndexOutOfBoundsException"
abbrev eA : String := "java/lang/IllegalArgumentException"
abbrev eS : String := "java/lang/IllegalStateException"
def am_c : List String := [eI, eA, eS]
def am_d : List MethodName := [Bundle.initS "java/lang/RuntimeException", Bundle.initS "java/lang/Exception", Bundle.initS Bundle.tN]
abbrev tysK (cI cF cQ : ClassId) : List (ClassId × FieldType) := [(cF, .float), (cI, .int), (cQ, .array .float)]
/-- what holds of the machine at every method's start: classes and array classes, private links, texts, the statics of Throwable (their cell is aT) -/
def am (l : Launch) (D : va_G) (cI cF cQ : ClassId) (aT : Nat) (U : State) : Prop :=
  va_K D vwCl (tysK cI cF cQ) U ∧ (∀ q ∈ am_nm, va_Nw (.methodLinkNest q.1 q.2.1 q.2.2 "StateKeeper") U) ∧ (∀ q ∈ am_nf, va_Nw (.fieldLinkNest q.1 q.2.1 q.2.2.1 q.2.2.2.1 q.2.2.2.2 "StateKeeper") U) ∧ (∀ q ∈ am_str, ∃ sa, vk_R RX3 q.1 q.2 sa U) ∧ ((∀ q ∈ am_c, va_Nw (.castable q q) U) ∧ ∀ q ∈ am_d, va_Nw (.declares q) U) ∧
  vx_Zq Bundle.tN "UNASSIGNED_STACK" Bundle.steD (fun q => q ≠ aT) U U.heap ∧ vx_Zq Bundle.tN "SUPPRESSED_SENTINEL" Bundle.listD (fun q => q ≠ aT) U U.heap ∧ va_AOA .float U ∧ va_Nc eA eI U ∧ va_Nc eS eI U ∧ va_Nc eS eA U ∧ l.stackTraces = false
theorem am.at {l : Launch} {D : va_G} {cI cF cQ : ClassId} {aT : Nat} {s U : State} (h : am l D cI cF cQ aT s) (hW : s.WarmedH U.vm) (hh : U.heap[aT]? = s.heap[aT]?) : am l D cI cF cQ aT U := by
  obtain ⟨h1, h2, h3, h4, h5, h6, h7, h8, h9, h10, h11, h12⟩ := h
  have hk : ∀ a : Nat, a < s.heap.size → ¬ (a ≠ aT) → U.heap[a]? = s.heap[a]? := fun a _ ha => by
    have e : a = aT := Decidable.not_not.mp ha
    rw [e]; exact hh
  refine ⟨va_K.moved hW.alike h1, fun q hq => va_Nw.warmM hW (h2 q hq), fun q hq => va_Nw.warmF hW (h3 q hq), fun q hq => ?_, ⟨fun q hq => va_Nw.warmC hW (h5.1 q hq), fun q hq => va_Nw.warmD hW (h5.2 q hq)⟩, ?_, ?_, va_AOA.moved hW.alike h8, va_Nc.moved hW.alike h9, va_Nc.moved hW.alike h10, va_Nc.moved hW.alike h11, h12⟩
  · obtain ⟨sa, hsa⟩ := h4 q hq
    exact ⟨sa, vk_R.warm hW hsa⟩
  · exact (vx_Zq.moved hW.alike h6).kept hk
  · exact (vx_Zq.moved hW.alike h7).kept hk
theorem am.lt {l : Launch} {D : va_G} {cI cF cQ : ClassId} {aT : Nat} {s : State} (h : am l D cI cF cQ aT s) : aT < s.heap.size := by
  obtain ⟨-, -, -, -, -, h6, -⟩ := h
  obtain ⟨-, c, k, i, f, a, cell, -, -, -, -, hc, -, -, -, -, hA⟩ := h6
  have e : a = aT := Decidable.not_not.mp hA
  rw [← e]
  exact (Array.getElem?_eq_some_iff.mp hc).1
/-- a method's start: the arguments, the heap's size, its world, the machine -/
def pcW (l : Launch) (D : va_G) (cI cF cQ : ClassId) (aT : Nat) (av : List Value) (w : va_W) (sz : Nat) : Array Value → State → Prop :=
  va_Pc av (fun U => U.heap.size = sz ∧ va_P D vwCl w U.heap ∧ va_D (fun q => q ≠ aT) w ∧ am l D cI cF cQ aT U)
theorem pcW_blind {l : Launch} {D : va_G} {cI cF cQ : ClassId} {aT : Nat} {av : List Value} {w : va_W} {sz : Nat} : FrameBlind (pcW l D cI cF cQ aT av w sz) := by
  intro a U g mk q
  obtain ⟨q0, q1, q2, q3, q4⟩ := q
  exact ⟨q0, q1, q2, q3, am.at (U := U.calling g mk a) q4 (State.WarmedH.refl U) rfl⟩
/-- the walk's own context -/
def cx (p : Program) (l : Launch) (m : MethodId) (c : Code) (s : State) (args : Array Value) (A : Nat → Prop) (D : va_G) (cI cF cQ : ClassId) (aT : Nat) (cc : ByteArray) (nL : Nat) (Ts : List Cond) (own : String) : Prop :=
  CallFix p m c cc nL s args Ts own ∧ (∀ q, s.heap.size ≤ q → A q) ∧ ¬ A aT ∧ am l D cI cF cQ aT s
theorem va_P_iff {D : va_G} {cl : List vw_C} {w : va_W} {H : Heap} : va_P D cl w H ↔ ∀ q ∈ w, va_at D cl q H := by
  constructor
  · intro h q hq
    obtain ⟨k, hk⟩ := List.getElem?_of_mem hq
    exact h k q hk
  · intro h k q hk
    exact h q (List.mem_of_getElem? hk)
theorem va_D_iff {A : Nat → Prop} {w : va_W} : va_D A w ↔ (w.map Prod.fst).Nodup ∧ ∀ q ∈ w, A q.1 := by
  constructor
  · intro h
    refine ⟨?_, fun q hq => ?_⟩
    · unfold List.Nodup
      rw [List.pairwise_iff_getElem]
      intro i j hi hj hij e
      rw [List.length_map] at hi hj
      rw [List.getElem_map, List.getElem_map] at e
      have := h.1 i j _ _ (List.getElem?_eq_getElem hi) (List.getElem?_eq_getElem hj) e
      omega
    · obtain ⟨k, hk⟩ := List.getElem?_of_mem hq
      exact h.2 k q hk
  · intro h
    refine ⟨fun i j x y hi hj e => ?_, fun k q hk => h.2 q (List.mem_of_getElem? hk)⟩
    have hn := h.1
    unfold List.Nodup at hn
    rw [List.pairwise_iff_getElem] at hn
    obtain ⟨li, ei⟩ := List.getElem?_eq_some_iff.mp hi
    obtain ⟨lj, ej⟩ := List.getElem?_eq_some_iff.mp hj
    have li2 : i < (w.map Prod.fst).length := by rw [List.length_map]; exact li
    have lj2 : j < (w.map Prod.fst).length := by rw [List.length_map]; exact lj
    rcases Nat.lt_trichotomy i j with q | q | q
    · exact absurd (by rw [List.getElem_map, List.getElem_map, ei, ej, e]) (hn i j li2 lj2 q)
    · exact q
    · exact absurd (by rw [List.getElem_map, List.getElem_map, ei, ej, e]) (hn j i lj2 li2 q)
theorem lz_permP {D : va_G} {cl : List vw_C} {w w' : va_W} {H : Heap} (hp : w.Perm w') (h : va_P D cl w H) : va_P D cl w' H := va_P_iff.mpr fun q hq => va_P_iff.mp h q (hp.mem_iff.mpr hq)
theorem lz_permD {A : Nat → Prop} {w w' : va_W} (hp : w.Perm w') (h : va_D A w) : va_D A w' := va_D_iff.mpr ⟨(hp.map Prod.fst).nodup_iff.mp (va_D_iff.mp h).1, fun q hq => (va_D_iff.mp h).2 q (hp.mem_iff.mpr hq)⟩
theorem lz_leftP {D : va_G} {cl : List vw_C} {w w' : va_W} {H : Heap} (h : va_P D cl (w ++ w') H) : va_P D cl w H := va_P_iff.mpr fun q hq => va_P_iff.mp h q (List.mem_append_left _ hq)
theorem lz_rightP {D : va_G} {cl : List vw_C} {w w' : va_W} {H : Heap} (h : va_P D cl (w ++ w') H) : va_P D cl w' H := va_P_iff.mpr fun q hq => va_P_iff.mp h q (List.mem_append_right _ hq)
theorem lz_leftD {A : Nat → Prop} {w w' : va_W} (h : va_D A (w ++ w')) : va_D A w := by
  have h1 := va_D_iff.mp h
  rw [List.map_append] at h1
  exact va_D_iff.mpr ⟨(List.nodup_append.mp h1.1).1, fun q hq => h1.2 q (List.mem_append_left _ hq)⟩
/-- the callee's part of a world, seen by itself -/
theorem lz_cutP {D : va_G} {cl : List vw_C} {w wc wr : va_W} {H : Heap} (hp : w.Perm (wc ++ wr)) (h : va_P D cl w H) : va_P D cl wc H := lz_leftP (lz_permP hp h)
theorem lz_cutD {A : Nat → Prop} {w wc wr : va_W} (hp : w.Perm (wc ++ wr)) (h : va_D A w) : va_D A wc := lz_leftD (lz_permD hp h)
theorem lz_addD {A : Nat → Prop} {w w' : va_W} (ha : w'.map Prod.fst = w.map Prod.fst) (h : va_D A w) : va_D A w' := by
  have h1 := va_D_iff.mp h
  refine va_D_iff.mpr ⟨by rw [ha]; exact h1.1, fun q hq => ?_⟩
  have h2 : q.1 ∈ w.map Prod.fst := by rw [← ha]; exact List.mem_map_of_mem hq
  obtain ⟨x, hx, e⟩ := List.mem_map.mp h2
  rw [← e]
  exact h1.2 x hx
theorem lz_inA {w : va_W} {sz q : Nat} : va_A w sz q ↔ q ∈ w.map Prod.fst ∨ sz ≤ q := by
  constructor
  · rintro (⟨k, e, h⟩ | h)
    · exact Or.inl (List.mem_map.mpr ⟨(q, e), List.mem_of_getElem? h, rfl⟩)
    · exact Or.inr h
  · rintro (h | h)
    · obtain ⟨x, hx, e⟩ := List.mem_map.mp h
      obtain ⟨k, hk⟩ := List.getElem?_of_mem hx
      exact Or.inl ⟨k, x.2, by rw [hk, ← e]⟩
    · exact Or.inr h
/-- behind a call that wrote its part w1 (the same addresses as wc) and nothing else that was there -/
theorem lz_join {A : Nat → Prop} {D : va_G} {w wc wr w1 : va_W} {H H1 : Heap} (hP : va_P D vwCl w H) (hD : va_D A w) (hp : w.Perm (wc ++ wr)) (hk : ∀ q : Nat, q < H.size → ¬ va_A wc H.size q → H1[q]? = H[q]?) (hP1 : va_P D vwCl w1 H1) (ha : w1.map Prod.fst = wc.map Prod.fst) : va_P D vwCl (w1 ++ wr) H1 ∧ va_D A (w1 ++ wr) := by
  have hP2 := lz_permP hp hP
  have hD2 := lz_permD hp hD
  have hd := va_D_iff.mp hD2
  rw [List.map_append] at hd
  have hdis := (List.nodup_append.mp hd.1).2.2
  constructor
  · refine va_P_iff.mpr fun q hq => ?_
    rcases List.mem_append.mp hq with h | h
    · exact va_P_iff.mp hP1 q h
    · have hat := va_P_iff.mp (lz_rightP hP2) q h
      refine hat.kept (hk q.1 hat.lt fun hA => ?_)
      rcases lz_inA.mp hA with h1 | h1
      · exact hdis q.1 h1 q.1 (List.mem_map_of_mem h) rfl
      · exact absurd hat.lt (by omega)
  · exact lz_addD (w := wc ++ wr) (by rw [List.map_append, List.map_append, ha]) hD2
theorem lz_freeA {A : Nat → Prop} {w wc wr : va_W} {H0 H : Heap} {locs : List Loc} (hD : va_D A w) (hp : w.Perm (wc ++ wr)) (hS : va_S A H0 H locs) (hA : ∀ q, H0.size ≤ q → A q) : ∀ q, va_A wc H.size q → A q := by
  intro q h
  rcases lz_inA.mp h with h1 | h1
  · obtain ⟨x, hx, e⟩ := List.mem_map.mp h1
    rw [← e]
    exact (va_D_iff.mp (lz_permD hp hD)).2 x (List.mem_append_left _ hx)
  · exact hA q (Nat.le_trans hS.1 h1)
end
section
/-! contracts' starts, calls, rows with indices that are numbers -/
section OF
variable {l : Launch} {D : va_G} {cI cF cQ : ClassId} {aT : Nat}
/-- a method that only reads -/
theorem lz_ofR {y : MethodName} {ws ws' : List Cond} {rm : Room} {Qc : Array Value → State → Outcome → State → Prop} {cc : ByteArray} {maxL : Nat} {ret : Option FieldType} {av : List Value} {w : va_W} {sz : Nat}
    (hy : plainName y.cls = true) (hw : ws = Cond.code y cc maxL ret :: ws') (hlen : (lg_sl av).length ≤ maxL)
    (body : ∀ (p : Program) (e : Env) (s : State) (m : MethodId) (below : List Frame) (meth : Method) (c : Code) (A : Nat → Prop), p.tables.exec = Jvm.exec → c.code = cc → meth.sig.returnType = ret → meth.locks = false → cx p l m c s av.toArray A D cI cF cQ aT cc maxL ws y.cls → va_P D vwCl w s.heap → va_D A w → va_S A s.heap s.heap [] → ∀ ls : Array Slot, lv_has ls maxL (lv_args 0 av) →
      W p l e rm s m av.toArray below meth c s.heap [] 0 0 (MQ below Qc av.toArray s 0 0 (fun _ => False)) (F0 m 0 ls [])) : Met l y ws rm (pcW l D cI cF cQ aT av w sz) Qc 0 0 (fun _ => False) := by
  refine Met.ofW (cc := cc) (maxL := maxL) (ret := ret) hy hw ?_
  intro p e s m args below meth c s₁ B hml hv
  obtain ⟨rfl, hsz, hP, hD0, ham⟩ := hv
  have hts := atoms_spec (ws := ws) B.pre
  have hown : s.vm.findClass y.cls = some m.cls := findClass_of_methodNamed B.named
  rw [lg_entry_eq]
  refine body p e s m below meth c (va_A w s.heap.size) B.exec B.bytes B.returns B.notSynchronized ⟨⟨B.exec, B.bytes, hml, hown, hts⟩, fun q h => Or.inr h, ?_, ham⟩ hP hD0.self va_S.rf _ (lv_entry av hlen)
  intro h
  rcases lz_inA.mp h with h1 | h1
  · obtain ⟨x, hx, e1⟩ := List.mem_map.mp h1
    exact (va_D_iff.mp hD0).2 x hx e1
  · exact absurd ham.lt (by omega)
/-- a method that writes its world -/
theorem lz_ofM {y : MethodName} {ws ws' : List Cond} {rm : Room} {Qf : (Nat → Prop) → Array Value → State → Outcome → State → Prop} {mc ms : Nat} {cc : ByteArray} {maxL : Nat} {ret : Option FieldType} {av : List Value} {w : va_W} {sz : Nat}
    (hy : plainName y.cls = true) (hw : ws = Cond.code y cc maxL ret :: ws') (hlen : (lg_sl av).length ≤ maxL)
    (body : ∀ (p : Program) (e : Env) (s : State) (m : MethodId) (below : List Frame) (meth : Method) (c : Code) (A : Nat → Prop), va_A w s.heap.size = A → s.heap.size = sz → p.tables.exec = Jvm.exec → c.code = cc → meth.sig.returnType = ret → meth.locks = false → meth.name = y.name → cx p l m c s av.toArray A D cI cF cQ aT cc maxL ws y.cls → va_P D vwCl w s.heap → va_D A w → va_S A s.heap s.heap [] → ∀ ls : Array Slot, lv_has ls maxL (lv_args 0 av) →
      W p l e rm s m av.toArray below meth c s.heap [] 0 0 (MQ below (Qf A) av.toArray s mc ms A) (F0 m 0 ls [])) : Met l y ws rm (pcW l D cI cF cQ aT av w sz) (Qf (va_A w sz)) mc ms (va_A w sz) := by
  refine Met.ofW (cc := cc) (maxL := maxL) (ret := ret) hy hw ?_
  intro p e s m args below meth c s₁ B hml hv
  obtain ⟨rfl, hsz, hP, hD0, ham⟩ := hv
  have hts := atoms_spec (ws := ws) B.pre
  have hown : s.vm.findClass y.cls = some m.cls := findClass_of_methodNamed B.named
  rw [lg_entry_eq]
  have hb := body p e s m below meth c (va_A w s.heap.size) rfl hsz B.exec B.bytes B.returns B.notSynchronized (name_of_methodNamed B.named B.method).1 ⟨⟨B.exec, B.bytes, hml, hown, hts⟩, fun q h => Or.inr h, ?_, ham⟩ hP hD0.self va_S.rf _ (lv_entry av hlen)
  · rw [hsz] at hb
    exact hb
  · intro h
    rcases lz_inA.mp h with h1 | h1
    · obtain ⟨x, hx, e1⟩ := List.mem_map.mp h1
      exact (va_D_iff.mp hD0).2 x hx e1
    · exact absurd ham.lt (by omega)
/-- a method that may throw -/
theorem lz_ofX {y : MethodName} {ws ws' : List Cond} {rm : Room} {Qf : (Nat → Prop) → Array Value → State → Outcome → State → Prop} {XF : (Nat → Prop) → String → State → State → Prop} {mc ms : Nat} {cc : ByteArray} {maxL : Nat} {ret : Option FieldType} {av : List Value} {w : va_W} {sz : Nat}
    (hy : plainName y.cls = true) (hw : ws = Cond.code y cc maxL ret :: ws') (hlen : (lg_sl av).length ≤ maxL)
    (body : ∀ (p : Program) (e : Env) (s : State) (m : MethodId) (below : List Frame) (meth : Method) (c : Code) (A : Nat → Prop), va_A w s.heap.size = A → s.heap.size = sz → (∀ x ∈ c.exceptionTable.toList, False) → p.tables.exec = Jvm.exec → c.code = cc → meth.sig.returnType = ret → meth.locks = false → cx p l m c s av.toArray A D cI cF cQ aT cc maxL ws y.cls → va_P D vwCl w s.heap → va_D A w → va_S A s.heap s.heap [] → ∀ ls : Array Slot, lv_has ls maxL (lv_args 0 av) →
      W p l e rm s m av.toArray below meth c s.heap [] 0 0 (vx_MQ below (Qf A) (XF A) av.toArray s mc ms A) (F0 m 0 ls [])) : vx_Met l y ws rm (pcW l D cI cF cQ aT av w sz) (Qf (va_A w sz)) (XF (va_A w sz)) mc ms (va_A w sz) := by
  refine vx_ofW (cc := cc) (maxL := maxL) (ret := ret) hy hw ?_
  intro p e s m args below meth c s₁ B hml htab hv
  obtain ⟨rfl, hsz, hP, hD0, ham⟩ := hv
  have hts := atoms_spec (ws := ws) B.pre
  have hown : s.vm.findClass y.cls = some m.cls := findClass_of_methodNamed B.named
  rw [lg_entry_eq]
  have hb := body p e s m below meth c (va_A w s.heap.size) rfl hsz htab B.exec B.bytes B.returns B.notSynchronized ⟨⟨B.exec, B.bytes, hml, hown, hts⟩, fun q h => Or.inr h, ?_, ham⟩ hP hD0.self va_S.rf _ (lv_entry av hlen)
  · rw [hsz] at hb
    exact hb
  · intro h
    rcases lz_inA.mp h with h1 | h1
    · obtain ⟨x, hx, e1⟩ := List.mem_map.mp h1
      exact (va_D_iff.mp hD0).2 x hx e1
    · exact absurd ham.lt (by omega)
end OF
section RUN
variable {p : Program} {l : Launch} {e : Env} {R : Room} {s : State} {m : MethodId} {args : Array Value} {below : List Frame} {meth : Method} {c : Code} {H : Heap} {locs : List Loc} {cells slots : Nat} {Q : State → Prop}
variable {D : va_G} {cI cF cQ : ClassId} {aT : Nat} {A : Nat → Prop} {cc bytes : ByteArray} {nL maxL mc ms n index pc : Nat} {Ts ws : List Cond} {own C host : String} {y : MethodName} {ret : Option FieldType} {rm : Room} {Qc : Array Value → State → Outcome → State → Prop} {XC : String → State → State → Prop} {free : Addr → Prop} {b : Nat} {As rest st0 : List Value} {ls : Array Slot} {lv : List (Nat × Value)} {wc : va_W}
theorem lz_pre {av : List Value} (hC : cx p l m c s args A D cI cF cQ aT cc nL Ts own) (hS : va_S A s.heap H locs) (hP : va_P D vwCl wc H) (hD : va_D A wc) : ∀ U : State, U.heap = H → s.WarmedH U.vm → pcW l D cI cF cQ aT av wc H.size av.toArray U := by
  intro U hU hW
  obtain ⟨-, -, hAT, ham⟩ := hC
  refine ⟨rfl, by rw [hU], by rw [hU]; exact hP, hD.weaken (fun _ q _ h e => hAT (e ▸ h)), ham.at hW ?_⟩
  rw [hU]
  exact hS.2.1 aT ham.lt hAT
theorem lz_w8 (h : (rest.map fun v => v.category).sum ≤ 8) : 2 * (F0 m pc ls st0).monitorRoom + (rest.map fun v => v.category).sum ≤ 8 := lv_room h
theorem lz_runV (hC : cx p l m c s args A D cI cF cQ aT cc nL Ts own) (hS : va_S A s.heap H locs) (hl : lv_has ls nL lv) (hM : Met l y ws rm (pcW l D cI cF cQ aT (.ref b :: As) wc H.size) Qc mc ms free) (cw : CallW R s args own C index y bytes maxL ret ws rm mc ms n) (hP : va_P D vwCl wc H) (hD : va_D A wc)
    (hr : ∃ cellB : Cell, H[b]? = some cellB ∧ cellB.vm.isStatics = false ∧ s.vm.findClass C = some cellB.cls) (hn : As.length = n) (hst : st0 = As.reverse ++ .ref b :: rest) (h8 : (rest.map fun v => v.category).sum ≤ 8) (hdg : decode cc pc = .ok (.invokevirtual index, 3)) (hf : cells + mc ≤ R.cells ∧ slots + ms ≤ R.slots) :
    va_Run p l e R s m args below meth c H locs cells slots mc ms (F0 m pc ls st0) rest (Qc (Value.ref b :: As).toArray) free :=
  va_runV hC.1 hM cw ⟨pcW_blind, hr, lz_pre hC hS hP hD⟩ rfl hn hl.1 hst (lz_w8 h8) hdg hf
theorem lz_runVN (hC : cx p l m c s args A D cI cF cQ aT cc nL Ts own) (hS : va_S A s.heap H locs) (hl : lv_has ls nL lv) (hM : Met l y ws rm (pcW l D cI cF cQ aT (.ref b :: As) wc H.size) Qc mc ms free) (cw : va_CN R s args own index y host bytes maxL ret ws rm mc ms n ∧ (Cond.instanceMethod y).before args s = true ∧ (Cond.selects C y y).before args s = true) (hP : va_P D vwCl wc H) (hD : va_D A wc)
    (hr : ∃ cellB : Cell, H[b]? = some cellB ∧ cellB.vm.isStatics = false ∧ s.vm.findClass C = some cellB.cls) (hn : As.length = n) (hst : st0 = As.reverse ++ .ref b :: rest) (h8 : (rest.map fun v => v.category).sum ≤ 8) (hdg : decode cc pc = .ok (.invokevirtual index, 3)) (hf : cells + mc ≤ R.cells ∧ slots + ms ≤ R.slots) :
    va_Run p l e R s m args below meth c H locs cells slots mc ms (F0 m pc ls st0) rest (Qc (Value.ref b :: As).toArray) free :=
  va_runVN hC.1 hM cw ⟨pcW_blind, hr, lz_pre hC hS hP hD⟩ rfl hn hl.1 hst (lz_w8 h8) hdg hf
theorem lz_runS (hC : cx p l m c s args A D cI cF cQ aT cc nL Ts own) (hS : va_S A s.heap H locs) (hl : lv_has ls nL lv) (hM : Met l y ws rm (pcW l D cI cF cQ aT As wc H.size) Qc mc ms free) (cw : CallB R s args own index y bytes maxL ret ws rm mc ms n ∧ (Cond.static y).before args s = true) (hP : va_P D vwCl wc H) (hD : va_D A wc)
    (hn : As.length = n) (hst : st0 = As.reverse ++ rest) (h8 : (rest.map fun v => v.category).sum ≤ 8) (hdg : decode cc pc = .ok (.invokestatic index, 3)) (hf : cells + mc ≤ R.cells ∧ slots + ms ≤ R.slots) :
    va_Run p l e R s m args below meth c H locs cells slots mc ms (F0 m pc ls st0) rest (Qc As.toArray) free :=
  va_runS hC.1 hM cw ⟨pcW_blind, lz_pre hC hS hP hD⟩ rfl hn hl.1 hst (lz_w8 h8) hdg hf
theorem lz_runSN (hC : cx p l m c s args A D cI cF cQ aT cc nL Ts own) (hS : va_S A s.heap H locs) (hl : lv_has ls nL lv) (hM : Met l y ws rm (pcW l D cI cF cQ aT As wc H.size) Qc mc ms free) (cw : va_CN R s args own index y host bytes maxL ret ws rm mc ms n ∧ (Cond.static y).before args s = true ∧ True) (hP : va_P D vwCl wc H) (hD : va_D A wc)
    (hn : As.length = n) (hst : st0 = As.reverse ++ rest) (h8 : (rest.map fun v => v.category).sum ≤ 8) (hdg : decode cc pc = .ok (.invokestatic index, 3)) (hf : cells + mc ≤ R.cells ∧ slots + ms ≤ R.slots) :
    va_Run p l e R s m args below meth c H locs cells slots mc ms (F0 m pc ls st0) rest (Qc As.toArray) free :=
  va_runSN hC.1 hM cw ⟨pcW_blind, lz_pre hC hS hP hD⟩ rfl hn hl.1 hst (lz_w8 h8) hdg hf
theorem lz_runIN (hC : cx p l m c s args A D cI cF cQ aT cc nL Ts own) (hS : va_S A s.heap H locs) (hl : lv_has ls nL lv) (hM : Met l y ws rm (pcW l D cI cF cQ aT (.ref b :: As) wc H.size) Qc mc ms free) (cw : va_CN R s args own index y host bytes maxL none ws rm mc ms n ∧ y.name = "<init>" ∧ (Cond.instanceMethod y).before args s = true) (hP : va_P D vwCl wc H) (hD : va_D A wc)
    (hn : As.length = n) (hst : st0 = As.reverse ++ .ref b :: rest) (h8 : (rest.map fun v => v.category).sum ≤ 8) (hdg : decode cc pc = .ok (.invokespecial index, 3)) (hf : cells + mc ≤ R.cells ∧ slots + ms ≤ R.slots) :
    va_Run p l e R s m args below meth c H locs cells slots mc ms (F0 m pc ls st0) rest (Qc (Value.ref b :: As).toArray) free :=
  va_runIN hC.1 hM cw ⟨pcW_blind, lz_pre hC hS hP hD⟩ rfl hn hl.1 hst (lz_w8 h8) hdg hf
theorem lz_runI (hC : cx p l m c s args A D cI cF cQ aT cc nL Ts own) (hS : va_S A s.heap H locs) (hl : lv_has ls nL lv) (hM : Met l y ws rm (pcW l D cI cF cQ aT (.ref b :: As) wc H.size) Qc mc ms free) (cw : CallB R s args own index y bytes maxL none ws rm mc ms n ∧ y.name = "<init>" ∧ (Cond.instanceMethod y).before args s = true) (hP : va_P D vwCl wc H) (hD : va_D A wc)
    (hn : As.length = n) (hst : st0 = As.reverse ++ .ref b :: rest) (h8 : (rest.map fun v => v.category).sum ≤ 8) (hdg : decode cc pc = .ok (.invokespecial index, 3)) (hf : cells + mc ≤ R.cells ∧ slots + ms ≤ R.slots) :
    va_Run p l e R s m args below meth c H locs cells slots mc ms (F0 m pc ls st0) rest (Qc (Value.ref b :: As).toArray) free :=
  va_runI hC.1 hM cw ⟨pcW_blind, lz_pre hC hS hP hD⟩ rfl hn hl.1 hst (lz_w8 h8) hdg hf
theorem lx_runV (hC : cx p l m c s args A D cI cF cQ aT cc nL Ts own) (hS : va_S A s.heap H locs) (hl : lv_has ls nL lv) (hM : vx_Met l y ws rm (pcW l D cI cF cQ aT (.ref b :: As) wc H.size) Qc XC mc ms free) (cw : CallW R s args own C index y bytes maxL ret ws rm mc ms n) (hP : va_P D vwCl wc H) (hD : va_D A wc)
    (hr : ∃ cellB : Cell, H[b]? = some cellB ∧ cellB.vm.isStatics = false ∧ s.vm.findClass C = some cellB.cls) (hn : As.length = n) (hst : st0 = As.reverse ++ .ref b :: rest) (h8 : (rest.map fun v => v.category).sum ≤ 8) (hdg : decode cc pc = .ok (.invokevirtual index, 3)) (hf : cells + mc ≤ R.cells ∧ slots + ms ≤ R.slots) :
    vx_Run p l e R s m args below meth c H locs cells slots mc ms (F0 m pc ls st0) rest (Qc (Value.ref b :: As).toArray) XC free :=
  vx_runV hC.1 hM cw ⟨pcW_blind, hr, lz_pre hC hS hP hD⟩ rfl hn hl.1 hst (lz_w8 h8) hdg hf
theorem lx_runS (hC : cx p l m c s args A D cI cF cQ aT cc nL Ts own) (hS : va_S A s.heap H locs) (hl : lv_has ls nL lv) (hM : vx_Met l y ws rm (pcW l D cI cF cQ aT As wc H.size) Qc XC mc ms free) (cw : CallB R s args own index y bytes maxL ret ws rm mc ms n ∧ (Cond.static y).before args s = true) (hP : va_P D vwCl wc H) (hD : va_D A wc)
    (hn : As.length = n) (hst : st0 = As.reverse ++ rest) (h8 : (rest.map fun v => v.category).sum ≤ 8) (hdg : decode cc pc = .ok (.invokestatic index, 3)) (hf : cells + mc ≤ R.cells ∧ slots + ms ≤ R.slots) :
    vx_Run p l e R s m args below meth c H locs cells slots mc ms (F0 m pc ls st0) rest (Qc As.toArray) XC free :=
  vx_runS hC.1 hM cw ⟨pcW_blind, lz_pre hC hS hP hD⟩ rfl hn hl.1 hst (lz_w8 h8) hdg hf
/-- a call that writes its part of the world: int answer -/
theorem lz_cMi {w wr : va_W} {w2 : va_W → va_W} {post : Int32 → va_W → Prop} {a : Array Value} (hr : va_Run p l e R s m args below meth c H locs cells slots mc ms (F0 m pc ls st0) rest (va_Qi post (fun w1 t => va_P D vwCl w1 t.heap) (va_A wc H.size) a) (va_A wc H.size)) (hP : va_P D vwCl w H) (hD : va_D A w) (hS : va_S A s.heap H locs) (hA : ∀ q, s.heap.size ≤ q → A q) (hp : w.Perm (wc ++ wr)) (ha : ∀ r w1, post r w1 → w1.map Prod.fst = wc.map Prod.fst) (hp2 : ∀ w1, (w1 ++ wr).Perm (w2 w1))
    (kk : ∀ (r : Int32) (w1 : va_W) (H1 : Heap) (locs1 : List Loc), post r w1 → va_P D vwCl (w2 w1) H1 → va_D A (w2 w1) → va_S A s.heap H1 locs1 → W p l e R s m args below meth c H1 locs1 (cells + mc) (slots + ms) Q (F0 m (pc + 3) ls (.int r :: rest))) : W p l e R s m args below meth c H locs cells slots Q (F0 m pc ls st0) := by
  have hF := lz_freeA hD hp hS hA
  refine va_calli hr hS (fun q _ h => hF q h) hF (fun r w1 t H1 locs1 ht hvm hpo hB hz hk hS => ?_)
  obtain ⟨h1, h2⟩ := lz_join hP hD hp hk (by rw [← ht]; exact hB) (ha r w1 hpo)
  exact kk r w1 H1 locs1 hpo (lz_permP (hp2 w1) h1) (lz_permD (hp2 w1) h2) hS
/-- .. no answer -/
theorem lz_cMv {w wr : va_W} {w2 : va_W → va_W} {post : va_W → Prop} {a : Array Value} (hr : va_Run p l e R s m args below meth c H locs cells slots mc ms (F0 m pc ls st0) rest (va_Qv post (fun w1 t => va_P D vwCl w1 t.heap) (va_A wc H.size) a) (va_A wc H.size)) (hP : va_P D vwCl w H) (hD : va_D A w) (hS : va_S A s.heap H locs) (hA : ∀ q, s.heap.size ≤ q → A q) (hp : w.Perm (wc ++ wr)) (ha : ∀ w1, post w1 → w1.map Prod.fst = wc.map Prod.fst) (hp2 : ∀ w1, (w1 ++ wr).Perm (w2 w1))
    (kk : ∀ (w1 : va_W) (H1 : Heap) (locs1 : List Loc), post w1 → va_P D vwCl (w2 w1) H1 → va_D A (w2 w1) → va_S A s.heap H1 locs1 → W p l e R s m args below meth c H1 locs1 (cells + mc) (slots + ms) Q (F0 m (pc + 3) ls rest)) : W p l e R s m args below meth c H locs cells slots Q (F0 m pc ls st0) := by
  have hF := lz_freeA hD hp hS hA
  refine va_callv hr hS (fun q _ h => hF q h) hF (fun w1 t H1 locs1 ht hvm hpo hB hz hk hS => ?_)
  obtain ⟨h1, h2⟩ := lz_join hP hD hp hk (by rw [← ht]; exact hB) (ha w1 hpo)
  exact kk w1 H1 locs1 hpo (lz_permP (hp2 w1) h1) (lz_permD (hp2 w1) h2) hS
end RUN
section TOP
variable {p : Program} {l : Launch} {e : Env} {R : Room} {s : State} {m : MethodId} {args : Array Value} {below : List Frame} {meth : Method} {c : Code} {H : Heap} {locs : List Loc} {cells slots : Nat} {Q : State → Prop}
variable {cc : ByteArray} {pc : Nat} {ls : Array Slot} {rest : List Value} {D : va_G} {cl : List vw_C} {A : Nat → Prop} {a : Nat} {tys : List (ClassId × FieldType)} {ws : va_W} {H0 : Heap}
theorem lz_i {x y : Int32} (h : x = y) (k : W p l e R s m args below meth c H locs cells slots Q (F0 m pc ls (.int y :: rest))) : W p l e R s m args below meth c H locs cells slots Q (F0 m pc ls (.int x :: rest)) := by rw [h]; exact k
theorem lz_l {x y : Int64} (h : x = y) (k : W p l e R s m args below meth c H locs cells slots Q (F0 m pc ls (.long y :: rest))) : W p l e R s m args below meth c H locs cells slots Q (F0 m pc ls (.long x :: rest)) := by rw [h]; exact k
theorem lz_f {x y : UInt32} (h : x = y) (k : W p l e R s m args below meth c H locs cells slots Q (F0 m pc ls (.float y :: rest))) : W p l e R s m args below meth c H locs cells slots Q (F0 m pc ls (.float x :: rest)) := by rw [h]; exact k
theorem lz_iald (hexec : p.tables.exec = Jvm.exec) (hb : c.code = cc) (hK : va_K D cl tys s) (hP : va_P D cl ws H) (q0 t0 : Nat) {cA : ClassId} {n j : Nat} {f : Nat → Int32} (ha : ws[q0]? = some (a, .inl (cA, n, .inl f))) (ht : tys[t0]? = some (cA, .int)) (hj : j < n) (hn : n < 2 ^ 31) (hdg : decode cc pc = .ok (.iaload, 1))
    (kk : W p l e R s m args below meth c H locs cells slots Q (F0 m (pc + 1) ls (.int (f j) :: rest))) : W p l e R s m args below meth c H locs cells slots Q (F0 m pc ls (.int (nI j) :: .ref a :: rest)) := by
  refine va_iald hexec hb hK hP q0 t0 ha ht (vp_in_nI hj hn) hdg ?_
  rw [nI_clamp (Nat.lt_trans hj hn)]
  exact kk
theorem lz_fald (hexec : p.tables.exec = Jvm.exec) (hb : c.code = cc) (hK : va_K D cl tys s) (hP : va_P D cl ws H) (q0 t0 : Nat) {cA : ClassId} {n j : Nat} {f : Nat → UInt32} (ha : ws[q0]? = some (a, .inl (cA, n, .inr (.inr (.inl f))))) (ht : tys[t0]? = some (cA, .float)) (hj : j < n) (hn : n < 2 ^ 31) (hdg : decode cc pc = .ok (.faload, 1))
    (kk : W p l e R s m args below meth c H locs cells slots Q (F0 m (pc + 1) ls (.float (f j) :: rest))) : W p l e R s m args below meth c H locs cells slots Q (F0 m pc ls (.int (nI j) :: .ref a :: rest)) := by
  refine va_fald hexec hb hK hP q0 t0 ha ht (vp_in_nI hj hn) hdg ?_
  rw [nI_clamp (Nat.lt_trans hj hn)]
  exact kk
theorem lz_iast (hexec : p.tables.exec = Jvm.exec) (hb : c.code = cc) (hK : va_K D cl tys s) (hP : va_P D cl ws H) (hD : va_D A ws) (hS : va_S A H0 H locs) (q0 t0 : Nat) {cA : ClassId} {n j : Nat} {f : Nat → Int32} (ha : ws[q0]? = some (a, .inl (cA, n, .inl f))) (ht : tys[t0]? = some (cA, .int)) {x : Int32} (hj : j < n) (hn : n < 2 ^ 31) (hdg : decode cc pc = .ok (.iastore, 1))
    (kk : ∀ (H1 : Heap) (locs1 : List Loc), va_P D cl (ws.set q0 (a, .inl (cA, n, .inl (upd f j x)))) H1 → va_D A (ws.set q0 (a, .inl (cA, n, .inl (upd f j x)))) → va_S A H0 H1 locs1 → W p l e R s m args below meth c H1 locs1 cells slots Q (F0 m (pc + 1) ls rest)) : W p l e R s m args below meth c H locs cells slots Q (F0 m pc ls (.int x :: .int (nI j) :: .ref a :: rest)) := by
  refine va_iast hexec hb hK hP hD hS q0 t0 ha ht (vp_in_nI hj hn) hdg (fun H1 locs1 h1 h2 h3 => ?_)
  rw [nI_clamp (Nat.lt_trans hj hn)] at h1 h2
  exact kk H1 locs1 h1 h2 h3
theorem lz_fast (hexec : p.tables.exec = Jvm.exec) (hb : c.code = cc) (hK : va_K D cl tys s) (hP : va_P D cl ws H) (hD : va_D A ws) (hS : va_S A H0 H locs) (q0 t0 : Nat) {cA : ClassId} {n j : Nat} {f : Nat → UInt32} (ha : ws[q0]? = some (a, .inl (cA, n, .inr (.inr (.inl f))))) (ht : tys[t0]? = some (cA, .float)) {x : UInt32} (hj : j < n) (hn : n < 2 ^ 31) (hdg : decode cc pc = .ok (.fastore, 1))
    (kk : ∀ (H1 : Heap) (locs1 : List Loc), va_P D cl (ws.set q0 (a, .inl (cA, n, .inr (.inr (.inl (vf_upd f j x)))))) H1 → va_D A (ws.set q0 (a, .inl (cA, n, .inr (.inr (.inl (vf_upd f j x)))))) → va_S A H0 H1 locs1 → W p l e R s m args below meth c H1 locs1 cells slots Q (F0 m (pc + 1) ls rest)) : W p l e R s m args below meth c H locs cells slots Q (F0 m pc ls (.float x :: .int (nI j) :: .ref a :: rest)) := by
  refine va_fast hexec hb hK hP hD hS q0 t0 ha ht (vp_in_nI hj hn) hdg (fun H1 locs1 h1 h2 h3 => ?_)
  rw [nI_clamp (Nat.lt_trans hj hn)] at h1 h2
  exact kk H1 locs1 h1 h2 h3
/-- a row out of an array of arrays -/
theorem lz_aald (hexec : p.tables.exec = Jvm.exec) (hb : c.code = cc) (hK : va_K D cl tys s) (hP : va_P D cl ws H) (q0 t0 : Nat) {cA : ClassId} {t : FieldType} {n j r : Nat} {f : Nat → Option Nat} (ha : ws[q0]? = some (a, .inl (cA, n, .inr (.inr (.inr (.inr f)))))) (ht : tys[t0]? = some (cA, .array t)) (hj : j < n) (hn : n < 2 ^ 31) (hr : f j = some r) (hdg : decode cc pc = .ok (.aaload, 1))
    (kk : W p l e R s m args below meth c H locs cells slots Q (F0 m (pc + 1) ls (.ref r :: rest))) : W p l e R s m args below meth c H locs cells slots Q (F0 m pc ls (.int (nI j) :: .ref a :: rest)) := by
  have hlt : (nI j).toNatClampNeg < n := by rw [nI_clamp (Nat.lt_trans hj hn)]; exact hj
  refine W.aald (v := .ref r) (ty := .array t) hexec hb (hP q0 _ ha) ((hK.2 t0 _ ht).1 n (fun j => va_rf (f j))) rfl (fun q => by cases q) (by show ¬ ((nI j) < 0 ∨ (arrV _ _ _).slots.size ≤ _); rw [arrV_size]; exact vp_in_nI hj hn) (by show (arrV _ _ _).slots[_]? = _; rw [arrV_read _ _ hlt, nI_clamp (Nat.lt_trans hj hn), hr]; rfl) rfl rfl hdg kk
theorem lz_copyi (hexec : p.tables.exec = Jvm.exec) (hb : c.code = cc) (hml : c.maxLocals = ls.size) {own : String} {index : Nat} (hown : s.vm.findClass own = some m.cls) (hlink : (Cond.methodLink own index arraycopyName).before args s = true) (hnat : (Cond.native arraycopyName).before args s = true) (hstat : (Cond.static arraycopyName).before args s = true) (hini : (Cond.initialized "java/lang/System").before args s = true)
    (hK : va_K D cl tys s) (hP : va_P D cl ws H) (hD : va_D A ws) (hS : va_S A H0 H locs) (q0 q1 t0 : Nat) {a0 : Nat} {cA : ClassId} {n0 n1 sp dp n : Nat} {f g : Nat → Int32} (ha0 : ws[q0]? = some (a0, .inl (cA, n0, .inl f))) (ha1 : ws[q1]? = some (a, .inl (cA, n1, .inl g))) (ht : tys[t0]? = some (cA, .int))
    (h4 : sp + n ≤ n0) (h5 : dp + n ≤ n1) (h6 : n0 < 2 ^ 31) (h7 : n1 < 2 ^ 31) (hframes : 1 ≤ R.frames) (hlocals : (rest.map fun v => v.category).sum + (nativeFrameWords "java/lang/System" "arraycopy" 5 + 11) ≤ R.locals) (hdg : decode cc pc = .ok (.invokestatic index, 3))
    (kk : ∀ (H1 : Heap) (locs1 : List Loc), va_P D cl (ws.set q1 (a, .inl (cA, n1, .inl (va_cpy f g sp dp n)))) H1 → va_D A (ws.set q1 (a, .inl (cA, n1, .inl (va_cpy f g sp dp n)))) → va_S A H0 H1 locs1 → W p l e R s m args below meth c H1 locs1 cells slots Q (F0 m (pc + 3) ls rest)) : W p l e R s m args below meth c H locs cells slots Q (F0 m pc ls (.int (nI n) :: .int (nI dp) :: .ref a :: .int (nI sp) :: .ref a0 :: rest)) := by
  have c1 : (nI sp).toNatClampNeg = sp := nI_clamp (by omega)
  have c2 : (nI dp).toNatClampNeg = dp := nI_clamp (by omega)
  have c3 : (nI n).toNatClampNeg = n := nI_clamp (by omega)
  refine va_copyi hexec hb hml hown hlink hnat hstat hini hK hP hD hS q0 q1 t0 t0 ha0 ha1 ht ht rfl (nI_pos (by omega)) (nI_pos (by omega)) (nI_pos (by omega)) (by rw [c1, c3]; exact h4) (by rw [c2, c3]; exact h5) (fun i _ => rfl) hframes hlocals hdg (fun H1 locs1 g1 g2 g3 => ?_)
  rw [c1, c2, c3] at g1 g2
  exact kk H1 locs1 g1 g2 g3
theorem lz_copyf (hexec : p.tables.exec = Jvm.exec) (hb : c.code = cc) (hml : c.maxLocals = ls.size) {own : String} {index : Nat} (hown : s.vm.findClass own = some m.cls) (hlink : (Cond.methodLink own index arraycopyName).before args s = true) (hnat : (Cond.native arraycopyName).before args s = true) (hstat : (Cond.static arraycopyName).before args s = true) (hini : (Cond.initialized "java/lang/System").before args s = true)
    (hK : va_K D cl tys s) (hP : va_P D cl ws H) (hD : va_D A ws) (hS : va_S A H0 H locs) (q0 q1 t0 : Nat) {a0 : Nat} {cA : ClassId} {n0 n1 sp dp n : Nat} {f g : Nat → UInt32} (ha0 : ws[q0]? = some (a0, .inl (cA, n0, .inr (.inr (.inl f))))) (ha1 : ws[q1]? = some (a, .inl (cA, n1, .inr (.inr (.inl g))))) (ht : tys[t0]? = some (cA, .float))
    (h4 : sp + n ≤ n0) (h5 : dp + n ≤ n1) (h6 : n0 < 2 ^ 31) (h7 : n1 < 2 ^ 31) (hframes : 1 ≤ R.frames) (hlocals : (rest.map fun v => v.category).sum + (nativeFrameWords "java/lang/System" "arraycopy" 5 + 11) ≤ R.locals) (hdg : decode cc pc = .ok (.invokestatic index, 3))
    (kk : ∀ (H1 : Heap) (locs1 : List Loc), va_P D cl (ws.set q1 (a, .inl (cA, n1, .inr (.inr (.inl (va_cpy f g sp dp n)))))) H1 → va_D A (ws.set q1 (a, .inl (cA, n1, .inr (.inr (.inl (va_cpy f g sp dp n)))))) → va_S A H0 H1 locs1 → W p l e R s m args below meth c H1 locs1 cells slots Q (F0 m (pc + 3) ls rest)) : W p l e R s m args below meth c H locs cells slots Q (F0 m pc ls (.int (nI n) :: .int (nI dp) :: .ref a :: .int (nI sp) :: .ref a0 :: rest)) := by
  have c1 : (nI sp).toNatClampNeg = sp := nI_clamp (by omega)
  have c2 : (nI dp).toNatClampNeg = dp := nI_clamp (by omega)
  have c3 : (nI n).toNatClampNeg = n := nI_clamp (by omega)
  refine va_copyf hexec hb hml hown hlink hnat hstat hini hK hP hD hS q0 q1 t0 t0 ha0 ha1 ht ht rfl (nI_pos (by omega)) (nI_pos (by omega)) (nI_pos (by omega)) (by rw [c1, c3]; exact h4) (by rw [c2, c3]; exact h5) (fun i _ => rfl) hframes hlocals hdg (fun H1 locs1 g1 g2 g3 => ?_)
  rw [c1, c2, c3] at g1 g2
  exact kk H1 locs1 g1 g2 g3
end TOP
end
section
/-! floats: which results are no NaN, which are finite; the held number -/
abbrev fF (x : UInt32) : Prop := FP.Core.FFin x
abbrev fN (x : UInt32) : Prop := FP.Core.fIsNaN x = false
theorem fl_n32 {x : UInt32} (h : fN x) : vf_n32 x := by
  have h1 := (FP.Core.ne_nan32 x).mp ((FP.Core.notNaN_iff32 x).mp h)
  unfold vf_n32
  rw [UInt32.le_iff_toNat_le, UInt32.toNat_and]
  have e : (0x7fffffff : UInt32).toNat = 2 ^ 31 - 1 := by decide
  rw [e, Nat.and_two_pow_sub_one_eq_mod]
  exact h1
theorem fl_F {x : UInt32} (h : fF x) : fN x := FP.Core.FFin.notNaN h
theorem fl_add {x y : UInt32} (hx : fN x) (hy : fF y) : fN (FP.fadd x y) := FP.Core.fadd_out hx hy
theorem fl_add' {x y : UInt32} (hx : fF x) (hy : fN y) : fN (FP.fadd x y) := FP.Core.fadd_out' hx hy
theorem fl_mul {x y : UInt32} (hx : fF x) (hy : fF y) : fN (FP.fmul x y) := FP.Core.fmul_out hx hy
theorem fl_f2d {x : UInt32} (h : fF x) : vf_n64 (FP.f2d x) := by
  have hn : FP.Core.fIsNaN x = false := FP.Core.FFin.notNaN h
  have e : FP.f2d x = FP.Core.f2d x := by
    unfold FP.f2d
    rw [hn]
    rfl
  rw [e]
  have h1 := (FP.Core.ne_nan _).mp (FP.Core.DFin.ne_nan (FP.Core.f2d_fin h))
  unfold vf_n64
  rw [UInt64.le_iff_toNat_le, UInt64.toNat_and]
  have e : (0x7fffffffffffffff : UInt64).toNat = 2 ^ 63 - 1 := by decide
  rw [e, Nat.and_two_pow_sub_one_eq_mod]
  exact h1
def cN : UInt32 := 3347054592
def cP : UInt32 := 1199570944
theorem cN_F : fF cN := (FP.Core.fin_bits32 _).mpr (by decide)
theorem cP_F : fF cP := (FP.Core.fin_bits32 _).mpr (by decide)
theorem c0_F : fF FP.fconst0 := (FP.Core.fin_bits32 _).mpr (by decide)
theorem c0_Z : FP.Core.FZero FP.fconst0 := ⟨false, _, FP.Core.val32_fconst0⟩
/-- no infinity and no NaN: not below the one bound, not above the other -/
theorem fl_in {x a b : UInt32} (ha : fF a) (hb : fF b) (h1 : ¬ FP.fcmp x a = some .lt) (h2 : ¬ FP.fcmp x b = some .gt) (hx : fN x) : fF x := by
  have hn := (FP.Core.notNaN_iff32 x).mp hx
  obtain ⟨s, c, q, ea⟩ := ha
  obtain ⟨t, d, r, eb⟩ := hb
  cases ev : FP.Core.val32 x with
  | nan => exact absurd ev hn
  | fin s c q => exact ⟨s, c, q, ev⟩
  | inf u =>
    have k1 : FP.fcmp x a = some (compare (FP.Core.signed u 1) 0) := by
      show FP.Core.order (FP.Core.val32 x) (FP.Core.val32 a) = _
      rw [ev, ea]; rfl
    have k2 : FP.fcmp x b = some (compare (FP.Core.signed u 1) 0) := by
      show FP.Core.order (FP.Core.val32 x) (FP.Core.val32 b) = _
      rw [ev, eb]; rfl
    cases u
    · exact absurd (k2.trans (by decide)) h2
    · exact absurd (k1.trans (by decide)) h1
theorem fl_add0 {x : UInt32} (hx : fF x) : fF (FP.fadd x FP.fconst0) := by
  have h := (FP.Core.fadd_zero_eq hx c0_Z).1
  have hn : FP.Core.val32 (FP.fadd x FP.fconst0) ≠ .nan := (FP.Core.notNaN_iff32 _).mp (FP.Core.fadd_out (FP.Core.FFin.notNaN hx) c0_F)
  obtain ⟨s, c, q, e⟩ := hx
  cases ev : FP.Core.val32 (FP.fadd x FP.fconst0) with
  | nan => exact absurd ev hn
  | fin s c q => exact ⟨s, c, q, ev⟩
  | inf u =>
    have k : FP.Core.fcmp (FP.fadd x FP.fconst0) x = some (compare (FP.Core.signed u 1) 0) := by
      show FP.Core.order (FP.Core.val32 _) (FP.Core.val32 x) = _
      rw [ev, e]; rfl
    rw [k] at h
    cases u
    · exact absurd h (by decide)
    · exact absurd h (by decide)
/-- what fcmpg, ifge and fcmpl, ifle make of a number: held -/
def heldF (x : UInt32) : UInt32 := if FP.fcmp x cN = some .lt then cN else if FP.fcmp x cP = some .gt then cP else FP.fadd x FP.fconst0
theorem heldF_F {x : UInt32} (hx : fN x) : fF (heldF x) := by
  unfold heldF
  split
  · exact cN_F
  · split
    · exact cP_F
    · exact fl_add0 (fl_in cN_F cP_F (by assumption) (by assumption) hx)
theorem fl_ltg (x y : UInt32) : Op.cmpValue (FP.fcmp x y) .g < 0 ↔ FP.fcmp x y = some .lt := by
  cases FP.fcmp x y with
  | none => decide
  | some o => cases o <;> decide
theorem fl_geg (x y : UInt32) : 0 ≤ Op.cmpValue (FP.fcmp x y) .g ↔ ¬ FP.fcmp x y = some .lt := by
  cases FP.fcmp x y with
  | none => decide
  | some o => cases o <;> decide
theorem fl_gtl (x y : UInt32) : 0 < Op.cmpValue (FP.fcmp x y) .l ↔ FP.fcmp x y = some .gt := by
  cases FP.fcmp x y with
  | none => decide
  | some o => cases o <;> decide
theorem fl_lel (x y : UInt32) : Op.cmpValue (FP.fcmp x y) .l ≤ 0 ↔ ¬ FP.fcmp x y = some .gt := by
  cases FP.fcmp x y with
  | none => decide
  | some o => cases o <;> decide
/-- a ≤ x, as fcmpl and iflt have it -/
theorem fl_ltl (x y : UInt32) : Op.cmpValue (FP.fcmp x y) .l < 0 ↔ ¬ (FP.fcmp x y = some .gt ∨ FP.fcmp x y = some .eq) := by
  cases FP.fcmp x y with
  | none => decide
  | some o => cases o <;> decide
theorem fl_leg (x y : UInt32) : Op.cmpValue (FP.fcmp x y) .g ≤ 0 ↔ (FP.fcmp x y = some .lt ∨ FP.fcmp x y = some .eq) := by
  cases FP.fcmp x y with
  | none => decide
  | some o => cases o <;> decide
theorem fl_gtg (x y : UInt32) : 0 < Op.cmpValue (FP.fcmp x y) .g ↔ ¬ (FP.fcmp x y = some .lt ∨ FP.fcmp x y = some .eq) := by
  cases FP.fcmp x y with
  | none => decide
  | some o => cases o <;> decide
theorem fl_gel (x y : UInt32) : 0 ≤ Op.cmpValue (FP.fcmp x y) .l ↔ (FP.fcmp x y = some .gt ∨ FP.fcmp x y = some .eq) := by
  cases FP.fcmp x y with
  | none => decide
  | some o => cases o <;> decide
theorem fl_eql (x y : UInt32) : Op.cmpValue (FP.fcmp x y) .l = 0 ↔ FP.fcmp x y = some .eq := by
  cases FP.fcmp x y with
  | none => decide
  | some o => cases o <;> decide
/-- within two bounds -/
def inF (a b x : UInt32) : Prop := (FP.fcmp x a = some .gt ∨ FP.fcmp x a = some .eq) ∧ (FP.fcmp x b = some .lt ∨ FP.fcmp x b = some .eq)
theorem inF_F {a b x : UInt32} (ha : fF a) (hb : fF b) (h : inF a b x) : fF x := by
  obtain ⟨h1, h2⟩ := h
  refine fl_in ha hb (fun e => ?_) (fun e => ?_) ?_
  · rw [e] at h1; rcases h1 with h | h <;> cases h
  · rw [e] at h2; rcases h2 with h | h <;> cases h
  · refine (FP.Core.notNaN_iff32 x).mpr (fun e => ?_)
    have : FP.fcmp x a = none := (FP.Core.fcmp_none x a).mpr (Or.inl e)
    rw [this] at h1
    rcases h1 with h | h <;> cases h
def c4N : UInt32 := 3229614080
def c4P : UInt32 := 1082130432
theorem c4N_F : fF c4N := (FP.Core.fin_bits32 _).mpr (by decide)
theorem c4P_F : fF c4P := (FP.Core.fin_bits32 _).mpr (by decide)
/-- what an input does to a cell's number, ahead of holding it -/
def chg (x : UInt32) (w : Nat) (v : UInt32) : UInt32 := if w = 0 then v else if w = 1 then FP.fadd x v else FP.fmul x v
theorem chg_N {x v : UInt32} {w : Nat} (hx : fF x) (hv : fF v) : fN (chg x w v) := by
  unfold chg
  split
  · exact fl_F hv
  · split
    · exact fl_add' hx (fl_F hv)
    · exact fl_mul hx hv
/-- cells that are all finite -/
def cfin (c : Nat → UInt32) : Prop := ∀ i, fF (c i)
theorem cfin_upd {c : Nat → UInt32} {k : Nat} {x : UInt32} (h : cfin c) (hx : fF x) : cfin (vf_upd c k x) := by
  intro i
  unfold vf_upd
  split
  · exact hx
  · exact h i
theorem cfin_0 : cfin (fun _ => FP.fconst0) := fun _ => c0_F
end
section
/-! the record and the snapshots, as lists -/
/-- an input of the record: its step, cell, way, number -/
abbrev rI : Type := Nat × Nat × Nat × UInt32
def recOk (L : List rI) (f1 f2 f3 : Nat → Int32) (f4 : Nat → UInt32) : Prop := ∀ (j : Nat) (e : rI), L[j]? = some e → f1 j = nI e.1 ∧ f2 j = nI e.2.1 ∧ f3 j = nI e.2.2.1 ∧ f4 j = e.2.2.2
/-- how many are of steps below b -/
def cb (L : List rI) (b : Int) : Nat := L.countP (fun e => decide ((e.1 : Int) < b))
/-- how many are of step z -/
def cq (L : List rI) (z : Int) : Nat := L.countP (fun e => decide ((e.1 : Int) = z))
def srt (L : List rI) : Prop := L.Pairwise (fun a b => a.1 ≤ b.1)
theorem cb_cons (x : rI) (t : List rI) (b : Int) : cb (x :: t) b = cb t b + if (x.1 : Int) < b then 1 else 0 := by
  unfold cb
  rw [List.countP_cons]
  simp
theorem cb_0 {L : List rI} {b : Int} (h : ∀ e ∈ L, b ≤ (e.1 : Int)) : cb L b = 0 := by
  unfold cb
  rw [List.countP_eq_zero]
  intro e he
  have := h e he
  simp
  omega
theorem cb_le (L : List rI) (b : Int) : cb L b ≤ L.length := List.countP_le_length
theorem cq_le (L : List rI) (b : Int) : cq L b ≤ L.length := List.countP_le_length
theorem cb_iff {L : List rI} (h : srt L) {b : Int} : ∀ {j : Nat} {e : rI}, L[j]? = some e → ((e.1 : Int) < b ↔ j < cb L b) := by
  induction L with
  | nil => intro j e hj; simp at hj
  | cons x t ih =>
    intro j e hj
    unfold srt at h
    rw [List.pairwise_cons] at h
    rw [cb_cons]
    have h0 : ¬ (x.1 : Int) < b → cb t b = 0 := fun hx => cb_0 fun e he => by have := h.1 e he; omega
    cases j with
    | zero =>
      rw [List.getElem?_cons_zero] at hj
      cases hj
      by_cases hx : (x.1 : Int) < b
      · simp [hx]
      · rw [h0 hx]; simp [hx]
    | succ j =>
      rw [List.getElem?_cons_succ] at hj
      have hi := ih h.2 hj
      by_cases hx : (x.1 : Int) < b
      · simp only [hx, if_true]
        omega
      · have := h0 hx
        simp only [hx, if_false]
        omega
theorem rc_split {L : List rI} (h : srt L) (b : Int) : L = L.filter (fun e => decide ((e.1 : Int) < b)) ++ L.filter (fun e => decide (b ≤ (e.1 : Int))) := by
  induction L with
  | nil => rfl
  | cons x t ih =>
    unfold srt at h
    rw [List.pairwise_cons] at h
    by_cases hx : (x.1 : Int) < b
    · have hx2 : ¬ b ≤ (x.1 : Int) := by omega
      rw [List.filter_cons_of_pos (by simpa using hx), List.filter_cons_of_neg (by simpa using hx2), List.cons_append]
      exact congrArg (List.cons x) (ih h.2)
    · have hx2 : b ≤ (x.1 : Int) := by omega
      have h1 : t.filter (fun e => decide ((e.1 : Int) < b)) = [] := by
        rw [List.filter_eq_nil_iff]
        intro e he
        have := h.1 e he
        simp; omega
      have h2 : t.filter (fun e => decide (b ≤ (e.1 : Int))) = t := by
        rw [List.filter_eq_self]
        intro e he
        have := h.1 e he
        simp; omega
      rw [List.filter_cons_of_neg (by simpa using hx), List.filter_cons_of_pos (by simpa using hx2), h1, h2]
      rfl
theorem cb_len (L : List rI) (b : Int) : (L.filter (fun e => decide ((e.1 : Int) < b))).length = cb L b := (List.countP_eq_length_filter).symm
theorem rc_take {L : List rI} (h : srt L) (b : Int) : L.take (cb L b) = L.filter (fun e => decide ((e.1 : Int) < b)) := by
  have e := congrArg (List.take (L.filter (fun e => decide ((e.1 : Int) < b))).length) (rc_split h b)
  rw [List.take_left, cb_len] at e
  exact e
theorem rc_drop {L : List rI} (h : srt L) (b : Int) : L.drop (cb L b) = L.filter (fun e => decide (b ≤ (e.1 : Int))) := by
  have e := congrArg (List.drop (L.filter (fun e => decide ((e.1 : Int) < b))).length) (rc_split h b)
  rw [List.drop_left, cb_len] at e
  exact e
theorem cb_mono (L : List rI) {a b : Int} (h : a ≤ b) : cb L a ≤ cb L b := by
  unfold cb
  apply List.countP_mono_left
  intro e _ he
  simp at he ⊢
  omega
theorem cq_cons (x : rI) (t : List rI) (b : Int) : cq (x :: t) b = cq t b + if (x.1 : Int) = b then 1 else 0 := by
  unfold cq
  rw [List.countP_cons]
  simp
theorem cb_cq (L : List rI) (z : Int) : cb L (z + 1) = cb L z + cq L z := by
  induction L with
  | nil => rfl
  | cons x t ih =>
    rw [cb_cons, cb_cons, cq_cons, ih]
    by_cases h1 : (x.1 : Int) < z
    · rw [if_pos h1, if_pos (by omega), if_neg (by omega)]; omega
    · by_cases h3 : (x.1 : Int) = z
      · rw [if_neg h1, if_pos (by omega), if_pos h3]; omega
      · rw [if_neg h1, if_neg (by omega), if_neg h3]; omega
/-- the part of a sorted record that is of step z -/
theorem rc_mid {L : List rI} (h : srt L) (z : Int) : (L.take (cb L (z + 1))).drop (cb L z) = L.filter (fun e => decide ((e.1 : Int) = z)) := by
  rw [rc_take h]
  have hs : srt (L.filter (fun e => decide ((e.1 : Int) < z + 1))) := List.Pairwise.filter _ h
  have he : cb L z = cb (L.filter (fun e => decide ((e.1 : Int) < z + 1))) z := by
    unfold cb
    rw [List.countP_filter]
    apply List.countP_congr
    intro e _
    simp
    omega
  rw [he, rc_drop hs, List.filter_filter]
  apply List.filter_congr
  intro e _
  rw [← Bool.decide_and, decide_eq_decide]
  omega
/-- the record with an input more, behind those of its step -/
def rins (L : List rI) (e : rI) : List rI := L.take (cb L (e.1 + 1)) ++ e :: L.drop (cb L (e.1 + 1))
theorem rins_len (L : List rI) (e : rI) : (rins L e).length = L.length + 1 := by
  unfold rins
  rw [List.length_append, List.length_cons, List.length_take, List.length_drop]
  have := cb_le L (e.1 + 1)
  omega
theorem rins_perm (L : List rI) (e : rI) : (rins L e).Perm (e :: L) := by
  unfold rins
  have h : (L.take (cb L (e.1 + 1)) ++ e :: L.drop (cb L (e.1 + 1))).Perm (e :: (L.take (cb L (e.1 + 1)) ++ L.drop (cb L (e.1 + 1)))) := List.perm_middle
  rw [List.take_append_drop] at h
  exact h
theorem rins_srt {L : List rI} (h : srt L) (e : rI) : srt (rins L e) := by
  unfold rins
  rw [rc_take h, rc_drop h]
  unfold srt
  rw [List.pairwise_append, List.pairwise_cons]
  refine ⟨List.Pairwise.filter _ h, ⟨fun a ha => ?_, List.Pairwise.filter _ h⟩, fun a ha b hb => ?_⟩
  · have := (List.mem_filter.mp ha).2
    simp at this
    omega
  · have ha2 := (List.mem_filter.mp ha).2
    simp at ha2
    rcases List.mem_cons.mp hb with rfl | hb
    · omega
    · have hb2 := (List.mem_filter.mp hb).2
      simp at hb2
      omega
theorem rins_filter {L : List rI} (h : srt L) (e : rI) (z : Int) : (rins L e).filter (fun x => decide ((x.1 : Int) = z)) = L.filter (fun x => decide ((x.1 : Int) = z)) ++ (if (e.1 : Int) = z then [e] else []) := by
  have e1 := rc_split h ((e.1 : Int) + 1)
  unfold rins
  rw [rc_take h, rc_drop h, List.filter_append, List.filter_cons]
  conv => rhs; rw [e1]
  rw [List.filter_append]
  by_cases hz : (e.1 : Int) = z
  · have h2 : (L.filter (fun x => decide ((e.1 : Int) + 1 ≤ (x.1 : Int)))).filter (fun x => decide ((x.1 : Int) = z)) = [] := by
      rw [List.filter_eq_nil_iff]
      intro x hx
      have := (List.mem_filter.mp hx).2
      simp at this ⊢
      omega
    rw [h2]
    simp [hz]
  · simp [hz]
theorem cb_get {L : List rI} (h : srt L) (b : Int) {j : Nat} {e : rI} (hj : L[j]? = some e) (hb : b ≤ (e.1 : Int)) : cb L b ≤ j := by
  have := (cb_iff h (b := b) hj)
  omega
/-- a snapshot: its step, its cells -/
abbrev sE : Type := Nat × (Nat → UInt32)
def ssrt (S : List sE) : Prop := S.Pairwise (fun a b => a.1 < b.1)
/-- how many are of steps up to b -/
def hsn (S : List sE) (b : Int) : Nat := S.countP (fun e => decide ((e.1 : Int) ≤ b))
/-- the place of the snapshot of step z -/
def plc (S : List sE) (z : Int) : Option Nat := S.findIdx? (fun e => decide ((e.1 : Int) = z))
def opI : Option Nat → Int32
  | some j => nI j
  | none => -1
theorem hsn_le (S : List sE) (b : Int) : hsn S b ≤ S.length := List.countP_le_length
theorem hsn_cons (x : sE) (t : List sE) (b : Int) : hsn (x :: t) b = hsn t b + if (x.1 : Int) ≤ b then 1 else 0 := by
  unfold hsn
  rw [List.countP_cons]
  simp
theorem hsn_iff {S : List sE} (h : ssrt S) {b : Int} : ∀ {j : Nat} {e : sE}, S[j]? = some e → ((e.1 : Int) ≤ b ↔ j < hsn S b) := by
  induction S with
  | nil => intro j e hj; simp at hj
  | cons x t ih =>
    intro j e hj
    unfold ssrt at h
    rw [List.pairwise_cons] at h
    rw [hsn_cons]
    have h0 : ¬ (x.1 : Int) ≤ b → hsn t b = 0 := fun hx => by
      unfold hsn
      rw [List.countP_eq_zero]
      intro e he
      have := h.1 e he
      simp
      omega
    cases j with
    | zero =>
      rw [List.getElem?_cons_zero] at hj
      cases hj
      by_cases hx : (x.1 : Int) ≤ b
      · simp [hx]
      · rw [h0 hx]; simp [hx]
    | succ j =>
      rw [List.getElem?_cons_succ] at hj
      have hi := ih h.2 hj
      by_cases hx : (x.1 : Int) ≤ b
      · simp only [hx, if_true]
        omega
      · have := h0 hx
        simp only [hx, if_false]
        omega
theorem ssrt_inj {S : List sE} (h : ssrt S) {i j : Nat} {x y : sE} (hi : S[i]? = some x) (hj : S[j]? = some y) (e : x.1 = y.1) : i = j := by
  have h1 := hsn_iff h (b := (x.1 : Int)) hi
  have h2 := hsn_iff h (b := (x.1 : Int)) hj
  have h3 := hsn_iff h (b := (x.1 : Int) - 1) hi
  have h4 := hsn_iff h (b := (x.1 : Int) - 1) hj
  have key : ∀ {i j : Nat} {x y : sE}, S[i]? = some x → S[j]? = some y → i < j → x.1 < y.1 := by
    intro i j x y hi hj hij
    obtain ⟨li, ei⟩ := List.getElem?_eq_some_iff.mp hi
    obtain ⟨lj, ej⟩ := List.getElem?_eq_some_iff.mp hj
    have := (List.pairwise_iff_getElem.mp h) i j li lj hij
    rw [ei, ej] at this
    exact this
  rcases Nat.lt_trichotomy i j with q | q | q
  · have := key hi hj q; omega
  · exact q
  · have := key hj hi q; omega
theorem plc_some {S : List sE} (h : ssrt S) {z : Int} {j : Nat} {e : sE} (hj : S[j]? = some e) (he : (e.1 : Int) = z) : plc S z = some j := by
  obtain ⟨lj, ej⟩ := List.getElem?_eq_some_iff.mp hj
  unfold plc
  rw [List.findIdx?_eq_some_iff_getElem]
  refine ⟨lj, by rw [ej]; simpa using he, fun i hi => ?_⟩
  have li : i < S.length := Nat.lt_trans hi lj
  have := ssrt_inj h (List.getElem?_eq_getElem li) hj
  simp
  intro e2
  have := this (by omega)
  omega
theorem plc_none {S : List sE} {z : Int} (h : ∀ e ∈ S, (e.1 : Int) ≠ z) : plc S z = none := by
  unfold plc
  rw [List.findIdx?_eq_none_iff]
  intro e he
  simpa using h e he
theorem plc_spec {S : List sE} {z : Int} {j : Nat} (h : plc S z = some j) : ∃ e, S[j]? = some e ∧ (e.1 : Int) = z := by
  unfold plc at h
  rw [List.findIdx?_eq_some_iff_getElem] at h
  obtain ⟨lj, h1, -⟩ := h
  exact ⟨S[j], List.getElem?_eq_getElem lj, by simpa using h1⟩
theorem plc_no {S : List sE} {z : Int} (h : plc S z = none) : ∀ e ∈ S, (e.1 : Int) ≠ z := by
  unfold plc at h
  rw [List.findIdx?_eq_none_iff] at h
  intro e he
  simpa using h e he
end
section
/-! ints and numbers -/
theorem iz_lt_r {z : Int32} {a : Nat} (h : a < 2 ^ 31) : z < nI a ↔ z.toInt < (a : Int) := by rw [Int32.lt_iff_toInt_lt, nI_toInt h]
theorem iz_lt_l {z : Int32} {a : Nat} (h : a < 2 ^ 31) : nI a < z ↔ (a : Int) < z.toInt := by rw [Int32.lt_iff_toInt_lt, nI_toInt h]
theorem iz_le_r {z : Int32} {a : Nat} (h : a < 2 ^ 31) : z ≤ nI a ↔ z.toInt ≤ (a : Int) := by rw [Int32.le_iff_toInt_le, nI_toInt h]
theorem iz_le_l {z : Int32} {a : Nat} (h : a < 2 ^ 31) : nI a ≤ z ↔ (a : Int) ≤ z.toInt := by rw [Int32.le_iff_toInt_le, nI_toInt h]
theorem iz_eq {z : Int32} {a : Nat} (h : a < 2 ^ 31) : nI a = z ↔ (a : Int) = z.toInt := by
  rw [← Int32.toInt_inj, nI_toInt h]
theorem iz_eq' {z : Int32} {a : Nat} (h : a < 2 ^ 31) : z = nI a ↔ z.toInt = (a : Int) := by
  rw [← Int32.toInt_inj, nI_toInt h]
theorem iz_0 : (0 : Int32).toInt = 0 := by decide
theorem iz_lt0 {z : Int32} : z < 0 ↔ z.toInt < 0 := by rw [Int32.lt_iff_toInt_lt, iz_0]
theorem iz_ge0 {z : Int32} : 0 ≤ z ↔ 0 ≤ z.toInt := by rw [Int32.le_iff_toInt_le, iz_0]
theorem iz_le0 {z : Int32} : z ≤ 0 ↔ z.toInt ≤ 0 := by rw [Int32.le_iff_toInt_le, iz_0]
theorem iz_gt0 {z : Int32} : 0 < z ↔ 0 < z.toInt := by rw [Int32.lt_iff_toInt_lt, iz_0]
theorem iz_nat {z : Int32} (h : 0 ≤ z.toInt) : ∃ a : Nat, a < 2 ^ 31 ∧ z = nI a ∧ z.toInt = (a : Int) := by
  obtain ⟨a, ha, e⟩ := nI_of (x := z) (by rw [iz_lt0]; omega)
  exact ⟨a, ha, e, by rw [e, nI_toInt ha]⟩
theorem iz_max (z : Int32) : z.toInt < 2147483648 ∧ -2147483648 ≤ z.toInt := by
  have h1 := Int32.toInt_lt z
  have h2 := Int32.le_toInt z
  constructor <;> omega
theorem iz_m1 {a : Nat} (h : a < 2 ^ 31) : ¬ nI a = -1 := by
  intro e
  have := (iz_eq h).mp e
  have h1 : (-1 : Int32).toInt = -1 := by decide
  omega
theorem lz_dec (i : Nat) : nI i + Int32.ofInt (-1) = nI i - 1 := by
  rw [Int32.sub_eq_add_neg]; rfl
theorem iz_ne0 {a : Nat} (h : a < 2 ^ 31) : nI a = 0 ↔ a = 0 := by
  rw [← nI_0, nI_eq h (by omega)]
theorem il_toInt (z : Int32) : z.toInt64.toInt = z.toInt := Int32.toInt_toInt64 z
theorem il_1 (z : Int32) : (z.toInt64 + lN 1).toInt = z.toInt + 1 := by
  have := iz_max z
  have e : (lN 1).toInt = 1 := by decide
  rw [Int64.toInt_add, il_toInt, e]
  apply Int.bmod_eq_of_le <;> omega
theorem il_ge (x y : Int64) : 0 ≤ lg_cmp x y ↔ ¬ x.toInt < y.toInt := by
  rw [← Int64.lt_iff_toInt_lt]
  unfold lg_cmp
  by_cases h1 : y < x
  · have h2 : ¬ x < y := lg_lt_not h1
    simp only [h1, h2, if_true]
    decide
  · by_cases h2 : x = y
    · subst h2
      simp only [h1, if_false]
      decide
    · have h3 : x < y := by
        rw [Int64.lt_iff_toInt_lt]
        rw [Int64.lt_iff_toInt_lt] at h1
        rw [← Int64.toInt_inj] at h2
        omega
      simp only [h1, h2, h3, if_false]
      decide
theorem il_lt (x y : Int64) : lg_cmp x y < 0 ↔ x.toInt < y.toInt := by
  have := il_ge x y
  rw [iz_ge0] at this
  rw [iz_lt0]
  omega
theorem il_ge0 (x : Int64) (y : Int64) : 0 ≤ lg_cmp x y ↔ y.toInt ≤ x.toInt := by
  rw [il_ge]
  omega
end
section
/-! calls on the whole world; empty worlds; folds over a part of a list -/
theorem lz_nilP {D : va_G} {cl : List vw_C} {H : Heap} : va_P D cl [] H := fun k q h => by simp at h
theorem lz_nilD {A : Nat → Prop} : va_D A [] := ⟨fun i j p q h => by simp at h, fun k q h => by simp at h⟩
section CM0
variable {p : Program} {l : Launch} {e : Env} {R : Room} {s : State} {m : MethodId} {args : Array Value} {below : List Frame} {meth : Method} {c : Code} {H : Heap} {locs : List Loc} {cells slots : Nat} {Q : State → Prop}
variable {D : va_G} {A : Nat → Prop} {mc ms pc : Nat} {st0 rest : List Value} {ls : Array Slot} {w : va_W}
theorem lz_cMi0 {post : Int32 → va_W → Prop} {a : Array Value} (hr : va_Run p l e R s m args below meth c H locs cells slots mc ms (F0 m pc ls st0) rest (va_Qi post (fun w1 t => va_P D vwCl w1 t.heap) (va_A w H.size) a) (va_A w H.size)) (hD : va_D A w) (hS : va_S A s.heap H locs) (hA : ∀ q, s.heap.size ≤ q → A q) (ha : ∀ r w1, post r w1 → w1.map Prod.fst = w.map Prod.fst)
    (kk : ∀ (r : Int32) (w1 : va_W) (H1 : Heap) (locs1 : List Loc), post r w1 → va_P D vwCl w1 H1 → va_D A w1 → va_S A s.heap H1 locs1 → W p l e R s m args below meth c H1 locs1 (cells + mc) (slots + ms) Q (F0 m (pc + 3) ls (.int r :: rest))) : W p l e R s m args below meth c H locs cells slots Q (F0 m pc ls st0) := by
  have hF := lz_freeA hD (List.Perm.of_eq (List.append_nil w).symm) hS hA
  refine va_calli hr hS (fun q _ h => hF q h) hF (fun r w1 t H1 locs1 ht hvm hpo hB hz hk hS => ?_)
  exact kk r w1 H1 locs1 hpo (by rw [← ht]; exact hB) (lz_addD (ha r w1 hpo) hD) hS
theorem lz_cMv0 {post : va_W → Prop} {a : Array Value} (hr : va_Run p l e R s m args below meth c H locs cells slots mc ms (F0 m pc ls st0) rest (va_Qv post (fun w1 t => va_P D vwCl w1 t.heap) (va_A w H.size) a) (va_A w H.size)) (hD : va_D A w) (hS : va_S A s.heap H locs) (hA : ∀ q, s.heap.size ≤ q → A q) (ha : ∀ w1, post w1 → w1.map Prod.fst = w.map Prod.fst)
    (kk : ∀ (w1 : va_W) (H1 : Heap) (locs1 : List Loc), post w1 → va_P D vwCl w1 H1 → va_D A w1 → va_S A s.heap H1 locs1 → W p l e R s m args below meth c H1 locs1 (cells + mc) (slots + ms) Q (F0 m (pc + 3) ls rest)) : W p l e R s m args below meth c H locs cells slots Q (F0 m pc ls st0) := by
  have hF := lz_freeA hD (List.Perm.of_eq (List.append_nil w).symm) hS hA
  refine va_callv hr hS (fun q _ h => hF q h) hF (fun w1 t H1 locs1 ht hvm hpo hB hz hk hS => ?_)
  exact kk w1 H1 locs1 hpo (by rw [← ht]; exact hB) (lz_addD (ha w1 hpo) hD) hS
end CM0
/-- places a .. b - 1 of a list -/
def seg {α : Type} (L : List α) (a b : Nat) : List α := (L.take b).drop a
theorem seg_self {α : Type} (L : List α) (a : Nat) : seg L a a = [] := by
  unfold seg
  rw [List.drop_eq_nil_iff, List.length_take]
  omega
theorem seg_succ {α : Type} {L : List α} {a b : Nat} {e : α} (hab : a ≤ b) (h : L[b]? = some e) : seg L a (b + 1) = seg L a b ++ [e] := by
  obtain ⟨hl, he⟩ := List.getElem?_eq_some_iff.mp h
  unfold seg
  rw [List.take_add_one, h, List.drop_append_of_le_length (by rw [List.length_take]; omega)]
  rfl
theorem seg_mem {α : Type} {L : List α} {a b : Nat} {e : α} (h : e ∈ seg L a b) : e ∈ L := List.mem_of_mem_take (List.mem_of_mem_drop h)
theorem seg_all {α : Type} (L : List α) : seg L 0 L.length = L := by
  unfold seg
  rw [List.take_length, List.drop_zero]
theorem lz_rightD {A : Nat → Prop} {w w' : va_W} (h : va_D A (w ++ w')) : va_D A w' := by
  have h1 := va_D_iff.mp h
  rw [List.map_append] at h1
  exact va_D_iff.mpr ⟨(List.nodup_append.mp h1.1).2.1, fun q hq => h1.2 q (List.mem_append_right _ hq)⟩
end
