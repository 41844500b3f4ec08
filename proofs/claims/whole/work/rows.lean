section
-- ===== PART A: goes FIRST, ahead of the names: the tables' words, and 'selects' of the private methods out of them =====
/-- a private method of a class that the tables say can be made, by its rows of tables_1 -/
def lw_okq (q : MethodName × Nat) : Prop := (q.1.cls ≠ "java/lang/invoke/MethodHandle" ∧ q.1.cls ≠ "java/lang/invoke/VarHandle") ∧ Cond.instantiable q.1.cls q.2 ∈ tables_1 ∧ Cond.privateMethod q.1 ∈ tables_1 ∧ Cond.instanceMethod q.1 ∈ tables_1
theorem lw_p0 : lw_okq (⟨"LocalBounds", "bestBound", "()I"⟩, 13) := ⟨⟨by decide +kernel, by decide +kernel⟩, List.mem_of_getElem? (i := 11) (by decide +kernel), List.mem_of_getElem? (i := 82) (by decide +kernel), List.mem_of_getElem? (i := 83) (by decide +kernel)⟩
theorem lw_p1 : lw_okq (⟨"LocalBounds", "fillOfGrey", "()V"⟩, 13) := ⟨⟨by decide +kernel, by decide +kernel⟩, List.mem_of_getElem? (i := 11) (by decide +kernel), List.mem_of_getElem? (i := 86) (by decide +kernel), List.mem_of_getElem? (i := 87) (by decide +kernel)⟩
theorem lw_p2 : lw_okq (⟨"LocalBounds", "sumOfSamples", "()J"⟩, 13) := ⟨⟨by decide +kernel, by decide +kernel⟩, List.mem_of_getElem? (i := 11) (by decide +kernel), List.mem_of_getElem? (i := 93) (by decide +kernel), List.mem_of_getElem? (i := 94) (by decide +kernel)⟩
theorem lw_p3 : lw_okq (⟨"LocalBounds", "placeOf", "(II)I"⟩, 13) := ⟨⟨by decide +kernel, by decide +kernel⟩, List.mem_of_getElem? (i := 11) (by decide +kernel), List.mem_of_getElem? (i := 105) (by decide +kernel), List.mem_of_getElem? (i := 106) (by decide +kernel)⟩
theorem lw_p4 : lw_okq (⟨"LocalBounds", "isEdge", "(II)Z"⟩, 13) := ⟨⟨by decide +kernel, by decide +kernel⟩, List.mem_of_getElem? (i := 11) (by decide +kernel), List.mem_of_getElem? (i := 109) (by decide +kernel), List.mem_of_getElem? (i := 110) (by decide +kernel)⟩
theorem lw_p5 : lw_okq (⟨"LocalBounds", "isBlack", "(II)Z"⟩, 13) := ⟨⟨by decide +kernel, by decide +kernel⟩, List.mem_of_getElem? (i := 11) (by decide +kernel), List.mem_of_getElem? (i := 113) (by decide +kernel), List.mem_of_getElem? (i := 114) (by decide +kernel)⟩
theorem lw_p6 : lw_okq (⟨"LocalBounds", "isInside", "(II)Z"⟩, 13) := ⟨⟨by decide +kernel, by decide +kernel⟩, List.mem_of_getElem? (i := 11) (by decide +kernel), List.mem_of_getElem? (i := 117) (by decide +kernel), List.mem_of_getElem? (i := 118) (by decide +kernel)⟩
theorem lw_p7 : lw_okq (⟨"LocalBounds", "countBlack", "()I"⟩, 13) := ⟨⟨by decide +kernel, by decide +kernel⟩, List.mem_of_getElem? (i := 11) (by decide +kernel), List.mem_of_getElem? (i := 121) (by decide +kernel), List.mem_of_getElem? (i := 122) (by decide +kernel)⟩
theorem lw_p8 : lw_okq (⟨"LocalBounds", "countBlackParts", "()I"⟩, 13) := ⟨⟨by decide +kernel, by decide +kernel⟩, List.mem_of_getElem? (i := 11) (by decide +kernel), List.mem_of_getElem? (i := 133) (by decide +kernel), List.mem_of_getElem? (i := 134) (by decide +kernel)⟩
theorem lw_p9 : lw_okq (⟨"LocalBounds", "unmarkAll", "()V"⟩, 13) := ⟨⟨by decide +kernel, by decide +kernel⟩, List.mem_of_getElem? (i := 11) (by decide +kernel), List.mem_of_getElem? (i := 137) (by decide +kernel), List.mem_of_getElem? (i := 138) (by decide +kernel)⟩
theorem lw_p10 : lw_okq (⟨"LocalBounds", "gatherPart", "(IZ)V"⟩, 13) := ⟨⟨by decide +kernel, by decide +kernel⟩, List.mem_of_getElem? (i := 11) (by decide +kernel), List.mem_of_getElem? (i := 141) (by decide +kernel), List.mem_of_getElem? (i := 142) (by decide +kernel)⟩
theorem lw_p11 : lw_okq (⟨"LocalBounds", "enqueue", "(I)V"⟩, 13) := ⟨⟨by decide +kernel, by decide +kernel⟩, List.mem_of_getElem? (i := 11) (by decide +kernel), List.mem_of_getElem? (i := 145) (by decide +kernel), List.mem_of_getElem? (i := 146) (by decide +kernel)⟩
theorem lw_p12 : lw_okq (⟨"LocalBounds", "columnOf", "(I)I"⟩, 13) := ⟨⟨by decide +kernel, by decide +kernel⟩, List.mem_of_getElem? (i := 11) (by decide +kernel), List.mem_of_getElem? (i := 149) (by decide +kernel), List.mem_of_getElem? (i := 150) (by decide +kernel)⟩
theorem lw_p13 : lw_okq (⟨"LocalBounds", "rowOf", "(I)I"⟩, 13) := ⟨⟨by decide +kernel, by decide +kernel⟩, List.mem_of_getElem? (i := 11) (by decide +kernel), List.mem_of_getElem? (i := 153) (by decide +kernel), List.mem_of_getElem? (i := 154) (by decide +kernel)⟩
theorem lw_p14 : lw_okq (⟨"LocalBounds", "gather", "(IIZ)V"⟩, 13) := ⟨⟨by decide +kernel, by decide +kernel⟩, List.mem_of_getElem? (i := 11) (by decide +kernel), List.mem_of_getElem? (i := 157) (by decide +kernel), List.mem_of_getElem? (i := 158) (by decide +kernel)⟩
theorem lw_p15 : lw_okq (⟨"LocalBounds", "countGreys", "()I"⟩, 13) := ⟨⟨by decide +kernel, by decide +kernel⟩, List.mem_of_getElem? (i := 11) (by decide +kernel), List.mem_of_getElem? (i := 161) (by decide +kernel), List.mem_of_getElem? (i := 162) (by decide +kernel)⟩
def lw_privs_1 : List (MethodName × Nat) := [(⟨"LocalBounds", "bestBound", "()I"⟩, 13), (⟨"LocalBounds", "fillOfGrey", "()V"⟩, 13), (⟨"LocalBounds", "sumOfSamples", "()J"⟩, 13), (⟨"LocalBounds", "placeOf", "(II)I"⟩, 13), (⟨"LocalBounds", "isEdge", "(II)Z"⟩, 13), (⟨"LocalBounds", "isBlack", "(II)Z"⟩, 13), (⟨"LocalBounds", "isInside", "(II)Z"⟩, 13), (⟨"LocalBounds", "countBlack", "()I"⟩, 13), (⟨"LocalBounds", "countBlackParts", "()I"⟩, 13), (⟨"LocalBounds", "unmarkAll", "()V"⟩, 13), (⟨"LocalBounds", "gatherPart", "(IZ)V"⟩, 13), (⟨"LocalBounds", "enqueue", "(I)V"⟩, 13), (⟨"LocalBounds", "columnOf", "(I)I"⟩, 13), (⟨"LocalBounds", "rowOf", "(I)I"⟩, 13), (⟨"LocalBounds", "gather", "(IIZ)V"⟩, 13), (⟨"LocalBounds", "countGreys", "()I"⟩, 13)]
theorem lw_r1 : ∀ q ∈ lw_privs_1, lw_okq q := List.forall_mem_cons.mpr ⟨lw_p0, List.forall_mem_cons.mpr ⟨lw_p1, List.forall_mem_cons.mpr ⟨lw_p2, List.forall_mem_cons.mpr ⟨lw_p3, List.forall_mem_cons.mpr ⟨lw_p4, List.forall_mem_cons.mpr ⟨lw_p5, List.forall_mem_cons.mpr ⟨lw_p6, List.forall_mem_cons.mpr ⟨lw_p7, List.forall_mem_cons.mpr ⟨lw_p8, List.forall_mem_cons.mpr ⟨lw_p9, List.forall_mem_cons.mpr ⟨lw_p10, List.forall_mem_cons.mpr ⟨lw_p11, List.forall_mem_cons.mpr ⟨lw_p12, List.forall_mem_cons.mpr ⟨lw_p13, List.forall_mem_cons.mpr ⟨lw_p14, List.forall_mem_cons.mpr ⟨lw_p15, fun _ h => absurd h List.not_mem_nil⟩⟩⟩⟩⟩⟩⟩⟩⟩⟩⟩⟩⟩⟩⟩⟩
theorem lw_p16 : lw_okq (⟨"java/lang/Throwable", "fillInStackTrace", "(I)Ljava/lang/Throwable;"⟩, 6) := ⟨⟨by decide +kernel, by decide +kernel⟩, List.mem_of_getElem? (i := 218) (by decide +kernel), List.mem_of_getElem? (i := 216) (by decide +kernel), List.mem_of_getElem? (i := 217) (by decide +kernel)⟩
theorem lw_p17 : lw_okq (⟨"LocalBounds", "fillSums", "()V"⟩, 13) := ⟨⟨by decide +kernel, by decide +kernel⟩, List.mem_of_getElem? (i := 11) (by decide +kernel), List.mem_of_getElem? (i := 273) (by decide +kernel), List.mem_of_getElem? (i := 274) (by decide +kernel)⟩
theorem lw_p18 : lw_okq (⟨"LocalBounds", "cornerOf", "(II)I"⟩, 13) := ⟨⟨by decide +kernel, by decide +kernel⟩, List.mem_of_getElem? (i := 11) (by decide +kernel), List.mem_of_getElem? (i := 277) (by decide +kernel), List.mem_of_getElem? (i := 278) (by decide +kernel)⟩
theorem lw_p19 : lw_okq (⟨"LocalBounds", "isDarkInWindow", "(IIII)Z"⟩, 13) := ⟨⟨by decide +kernel, by decide +kernel⟩, List.mem_of_getElem? (i := 11) (by decide +kernel), List.mem_of_getElem? (i := 281) (by decide +kernel), List.mem_of_getElem? (i := 282) (by decide +kernel)⟩
theorem lw_p20 : lw_okq (⟨"LocalBounds", "sumBetween", "([JIIII)J"⟩, 13) := ⟨⟨by decide +kernel, by decide +kernel⟩, List.mem_of_getElem? (i := 11) (by decide +kernel), List.mem_of_getElem? (i := 285) (by decide +kernel), List.mem_of_getElem? (i := 286) (by decide +kernel)⟩
theorem lw_p21 : lw_okq (⟨"LocalBounds", "spreadRow", "(II)V"⟩, 13) := ⟨⟨by decide +kernel, by decide +kernel⟩, List.mem_of_getElem? (i := 11) (by decide +kernel), List.mem_of_getElem? (i := 298) (by decide +kernel), List.mem_of_getElem? (i := 299) (by decide +kernel)⟩
theorem lw_p22 : lw_okq (⟨"LocalBounds", "spreadSample", "(IIII)V"⟩, 13) := ⟨⟨by decide +kernel, by decide +kernel⟩, List.mem_of_getElem? (i := 11) (by decide +kernel), List.mem_of_getElem? (i := 302) (by decide +kernel), List.mem_of_getElem? (i := 303) (by decide +kernel)⟩
theorem lw_p23 : lw_okq (⟨"LocalBounds", "passTo", "(III)V"⟩, 13) := ⟨⟨by decide +kernel, by decide +kernel⟩, List.mem_of_getElem? (i := 11) (by decide +kernel), List.mem_of_getElem? (i := 306) (by decide +kernel), List.mem_of_getElem? (i := 307) (by decide +kernel)⟩
theorem lw_p24 : lw_okq (⟨"LocalBounds", "blackenRound", "(III)V"⟩, 13) := ⟨⟨by decide +kernel, by decide +kernel⟩, List.mem_of_getElem? (i := 11) (by decide +kernel), List.mem_of_getElem? (i := 335) (by decide +kernel), List.mem_of_getElem? (i := 336) (by decide +kernel)⟩
theorem lw_p25 : lw_okq (⟨"LocalBounds", "blackenUpTo", "(II)V"⟩, 13) := ⟨⟨by decide +kernel, by decide +kernel⟩, List.mem_of_getElem? (i := 11) (by decide +kernel), List.mem_of_getElem? (i := 339) (by decide +kernel), List.mem_of_getElem? (i := 340) (by decide +kernel)⟩
theorem lw_p26 : lw_okq (⟨"LocalBounds", "turnSpecks", "(ZI)I"⟩, 13) := ⟨⟨by decide +kernel, by decide +kernel⟩, List.mem_of_getElem? (i := 11) (by decide +kernel), List.mem_of_getElem? (i := 351) (by decide +kernel), List.mem_of_getElem? (i := 352) (by decide +kernel)⟩
theorem lw_p27 : lw_okq (⟨"LocalBounds", "isSpeck", "(ZI)Z"⟩, 13) := ⟨⟨by decide +kernel, by decide +kernel⟩, List.mem_of_getElem? (i := 11) (by decide +kernel), List.mem_of_getElem? (i := 355) (by decide +kernel), List.mem_of_getElem? (i := 356) (by decide +kernel)⟩
theorem lw_p28 : lw_okq (⟨"LocalBounds", "queuedComeToEdge", "()Z"⟩, 13) := ⟨⟨by decide +kernel, by decide +kernel⟩, List.mem_of_getElem? (i := 11) (by decide +kernel), List.mem_of_getElem? (i := 359) (by decide +kernel), List.mem_of_getElem? (i := 360) (by decide +kernel)⟩
theorem lw_p29 : lw_okq (⟨"LocalBounds", "turnQueued", "(Z)I"⟩, 13) := ⟨⟨by decide +kernel, by decide +kernel⟩, List.mem_of_getElem? (i := 11) (by decide +kernel), List.mem_of_getElem? (i := 363) (by decide +kernel), List.mem_of_getElem? (i := 364) (by decide +kernel)⟩
theorem lw_p30 : lw_okq (⟨"LocalBoundsModel", "isIn", "(II)Z"⟩, 9) := ⟨⟨by decide +kernel, by decide +kernel⟩, List.mem_of_getElem? (i := 393) (by decide +kernel), List.mem_of_getElem? (i := 435) (by decide +kernel), List.mem_of_getElem? (i := 436) (by decide +kernel)⟩
theorem lw_p31 : lw_okq (⟨"LocalBoundsModel", "all", "()I"⟩, 9) := ⟨⟨by decide +kernel, by decide +kernel⟩, List.mem_of_getElem? (i := 393) (by decide +kernel), List.mem_of_getElem? (i := 443) (by decide +kernel), List.mem_of_getElem? (i := 444) (by decide +kernel)⟩
def lw_privs_2 : List (MethodName × Nat) := [(⟨"java/lang/Throwable", "fillInStackTrace", "(I)Ljava/lang/Throwable;"⟩, 6), (⟨"LocalBounds", "fillSums", "()V"⟩, 13), (⟨"LocalBounds", "cornerOf", "(II)I"⟩, 13), (⟨"LocalBounds", "isDarkInWindow", "(IIII)Z"⟩, 13), (⟨"LocalBounds", "sumBetween", "([JIIII)J"⟩, 13), (⟨"LocalBounds", "spreadRow", "(II)V"⟩, 13), (⟨"LocalBounds", "spreadSample", "(IIII)V"⟩, 13), (⟨"LocalBounds", "passTo", "(III)V"⟩, 13), (⟨"LocalBounds", "blackenRound", "(III)V"⟩, 13), (⟨"LocalBounds", "blackenUpTo", "(II)V"⟩, 13), (⟨"LocalBounds", "turnSpecks", "(ZI)I"⟩, 13), (⟨"LocalBounds", "isSpeck", "(ZI)Z"⟩, 13), (⟨"LocalBounds", "queuedComeToEdge", "()Z"⟩, 13), (⟨"LocalBounds", "turnQueued", "(Z)I"⟩, 13), (⟨"LocalBoundsModel", "isIn", "(II)Z"⟩, 9), (⟨"LocalBoundsModel", "all", "()I"⟩, 9)]
theorem lw_r2 : ∀ q ∈ lw_privs_2, lw_okq q := List.forall_mem_cons.mpr ⟨lw_p16, List.forall_mem_cons.mpr ⟨lw_p17, List.forall_mem_cons.mpr ⟨lw_p18, List.forall_mem_cons.mpr ⟨lw_p19, List.forall_mem_cons.mpr ⟨lw_p20, List.forall_mem_cons.mpr ⟨lw_p21, List.forall_mem_cons.mpr ⟨lw_p22, List.forall_mem_cons.mpr ⟨lw_p23, List.forall_mem_cons.mpr ⟨lw_p24, List.forall_mem_cons.mpr ⟨lw_p25, List.forall_mem_cons.mpr ⟨lw_p26, List.forall_mem_cons.mpr ⟨lw_p27, List.forall_mem_cons.mpr ⟨lw_p28, List.forall_mem_cons.mpr ⟨lw_p29, List.forall_mem_cons.mpr ⟨lw_p30, List.forall_mem_cons.mpr ⟨lw_p31, fun _ h => absurd h List.not_mem_nil⟩⟩⟩⟩⟩⟩⟩⟩⟩⟩⟩⟩⟩⟩⟩⟩
theorem lw_p32 : lw_okq (⟨"LocalBoundsModel", "isDark", "(IIII)Z"⟩, 9) := ⟨⟨by decide +kernel, by decide +kernel⟩, List.mem_of_getElem? (i := 393) (by decide +kernel), List.mem_of_getElem? (i := 455) (by decide +kernel), List.mem_of_getElem? (i := 456) (by decide +kernel)⟩
theorem lw_p33 : lw_okq (⟨"LocalBoundsModel", "blacks", "()I"⟩, 9) := ⟨⟨by decide +kernel, by decide +kernel⟩, List.mem_of_getElem? (i := 393) (by decide +kernel), List.mem_of_getElem? (i := 461) (by decide +kernel), List.mem_of_getElem? (i := 462) (by decide +kernel)⟩
theorem lw_p34 : lw_okq (⟨"LocalBoundsModel", "pass", "(III)V"⟩, 9) := ⟨⟨by decide +kernel, by decide +kernel⟩, List.mem_of_getElem? (i := 393) (by decide +kernel), List.mem_of_getElem? (i := 469) (by decide +kernel), List.mem_of_getElem? (i := 470) (by decide +kernel)⟩
theorem lw_p35 : lw_okq (⟨"LocalBoundsModel", "touchesBlack", "(II)Z"⟩, 9) := ⟨⟨by decide +kernel, by decide +kernel⟩, List.mem_of_getElem? (i := 393) (by decide +kernel), List.mem_of_getElem? (i := 495) (by decide +kernel), List.mem_of_getElem? (i := 496) (by decide +kernel)⟩
theorem lw_p36 : lw_okq (⟨"LocalBoundsModel", "turnSpecks", "(ZI)I"⟩, 9) := ⟨⟨by decide +kernel, by decide +kernel⟩, List.mem_of_getElem? (i := 393) (by decide +kernel), List.mem_of_getElem? (i := 503) (by decide +kernel), List.mem_of_getElem? (i := 504) (by decide +kernel)⟩
theorem lw_p37 : lw_okq (⟨"LocalBoundsModel", "findParts", "(Z)V"⟩, 9) := ⟨⟨by decide +kernel, by decide +kernel⟩, List.mem_of_getElem? (i := 393) (by decide +kernel), List.mem_of_getElem? (i := 507) (by decide +kernel), List.mem_of_getElem? (i := 508) (by decide +kernel)⟩
theorem lw_p38 : lw_okq (⟨"LocalBoundsModel", "lesser", "(IIIZ)I"⟩, 9) := ⟨⟨by decide +kernel, by decide +kernel⟩, List.mem_of_getElem? (i := 393) (by decide +kernel), List.mem_of_getElem? (i := 511) (by decide +kernel), List.mem_of_getElem? (i := 512) (by decide +kernel)⟩
theorem lw_p39 : lw_okq (⟨"LocalBoundsModel", "isBlackAt", "(II)Z"⟩, 9) := ⟨⟨by decide +kernel, by decide +kernel⟩, List.mem_of_getElem? (i := 393) (by decide +kernel), List.mem_of_getElem? (i := 519) (by decide +kernel), List.mem_of_getElem? (i := 520) (by decide +kernel)⟩
theorem lw_p40 : lw_okq (⟨"LocalBoundsModel", "parts", "()I"⟩, 9) := ⟨⟨by decide +kernel, by decide +kernel⟩, List.mem_of_getElem? (i := 393) (by decide +kernel), List.mem_of_getElem? (i := 539) (by decide +kernel), List.mem_of_getElem? (i := 540) (by decide +kernel)⟩
theorem lw_p41 : lw_okq (⟨"LocalBoundsModel", "different", "()I"⟩, 9) := ⟨⟨by decide +kernel, by decide +kernel⟩, List.mem_of_getElem? (i := 393) (by decide +kernel), List.mem_of_getElem? (i := 543) (by decide +kernel), List.mem_of_getElem? (i := 544) (by decide +kernel)⟩
def lw_privs_3 : List (MethodName × Nat) := [(⟨"LocalBoundsModel", "isDark", "(IIII)Z"⟩, 9), (⟨"LocalBoundsModel", "blacks", "()I"⟩, 9), (⟨"LocalBoundsModel", "pass", "(III)V"⟩, 9), (⟨"LocalBoundsModel", "touchesBlack", "(II)Z"⟩, 9), (⟨"LocalBoundsModel", "turnSpecks", "(ZI)I"⟩, 9), (⟨"LocalBoundsModel", "findParts", "(Z)V"⟩, 9), (⟨"LocalBoundsModel", "lesser", "(IIIZ)I"⟩, 9), (⟨"LocalBoundsModel", "isBlackAt", "(II)Z"⟩, 9), (⟨"LocalBoundsModel", "parts", "()I"⟩, 9), (⟨"LocalBoundsModel", "different", "()I"⟩, 9)]
theorem lw_r3 : ∀ q ∈ lw_privs_3, lw_okq q := List.forall_mem_cons.mpr ⟨lw_p32, List.forall_mem_cons.mpr ⟨lw_p33, List.forall_mem_cons.mpr ⟨lw_p34, List.forall_mem_cons.mpr ⟨lw_p35, List.forall_mem_cons.mpr ⟨lw_p36, List.forall_mem_cons.mpr ⟨lw_p37, List.forall_mem_cons.mpr ⟨lw_p38, List.forall_mem_cons.mpr ⟨lw_p39, List.forall_mem_cons.mpr ⟨lw_p40, List.forall_mem_cons.mpr ⟨lw_p41, fun _ h => absurd h List.not_mem_nil⟩⟩⟩⟩⟩⟩⟩⟩⟩⟩
def lw_privs : List (MethodName × Nat) := lw_privs_1 ++ (lw_privs_2 ++ (lw_privs_3))
def lw_tbl : List Cond := k2_sels lw_privs ++ tables_1
theorem lw_privs_ok : ∀ q ∈ lw_privs, lw_okq q := by
  show ∀ q ∈ lw_privs_1 ++ (lw_privs_2 ++ (lw_privs_3)), lw_okq q
  exact List.forall_mem_append.mpr ⟨lw_r1, List.forall_mem_append.mpr ⟨lw_r2, lw_r3⟩⟩
end
section
/-! ===== BEGIN words of one list among another's, by their places ===== -/
theorem goodIn_r {big : List Cond} (ws : List Cond) (ps : List Nat) (hp : ws = ps.filterMap (fun i => big[i]?)) (h : ws.all goodWord = true) : GoodIn big ws := by
  intro w hw
  have h1 := List.all_eq_true.mp h w hw
  rw [hp] at hw
  obtain ⟨i, -, hi⟩ := List.mem_filterMap.mp hw
  have hm : w ∈ big := by first | exact List.mem_of_getElem? hi | exact List.getElem?_mem hi
  exact ⟨hm, good_of_word h1⟩
theorem goodIn_app {big a b : List Cond} (ha : GoodIn big a) (hb : GoodIn big b) : GoodIn big (a ++ b) := fun w h => (List.mem_append.mp h).elim (ha w) (hb w)
theorem goodIn_ca {big a b : List Cond} {c : Cond} (ha : GoodIn big (c :: a)) (hb : GoodIn big b) : GoodIn big (c :: (a ++ b)) := fun w h => (List.mem_cons.mp h).elim (fun e => ha w (List.mem_cons.mpr (Or.inl e))) (fun h => (List.mem_append.mp h).elim (fun h => ha w (List.mem_cons.mpr (Or.inr h))) (hb w))
theorem goodIn_sub {big ws : List Cond} (hm : ∀ w ∈ ws, w ∈ big) (h : ws.all goodWord = true) : GoodIn big ws := fun w hw => ⟨hm w hw, good_of_word (List.all_eq_true.mp h w hw)⟩
/-! ===== END ===== -/

/-! ===== BEGIN exceptions that leave a method, and their catching by the caller (launches without stack traces) ===== -/
section VXA
/-! The laws vx_back, vx_callV, vx_callS, vx_callSW, vx_throw0, vx_throwS follow proofs of the library, with one case more: JvmDerived/Free/Laws.lean (Back.of_free), Shelf42/LK1.lean (callV, callS), Shelf/KitTraced.lean (throwNew0V, throwNewS). -/
/-- where a method has thrown q: the class by its name, the cell, what was written, the world -/
def vx_T (XC : String → State → State → Prop) (st : State) (q : Addr) (t : State) (mc ms : Nat) (free : Addr → Prop) : Prop :=
  ∃ (E : String) (ce : Cell) (L : List Loc), XC E st t ∧ t.heap[q]? = some ce ∧ ce.vm = .none ∧ st.vm.findClass E = some ce.cls ∧ st.WarmedH t.vm ∧ st.sameButNew ({ t with vm := st.vm } : State) L mc ms ∧ ∀ z ∈ L, free z.base
def vx_Q (Qc : Array Value → State → Outcome → State → Prop) (XC : String → State → State → Prop) (mc ms : Nat) (free : Addr → Prop) : Array Value → State → Outcome → State → Prop := fun a st o t =>
  (Qc a st o t ∧ ∃ L, FrameEnd st o t L mc ms ∧ ∀ q ∈ L, free q.base) ∨ ∃ q, o = .threw q ∧ vx_T XC st q t mc ms free
/-- a callee that returns or throws -/
def vx_Met (l : Launch) (y : MethodName) (ws : List Cond) (rm : Room) (Pc : Array Value → State → Prop) (Qc : Array Value → State → Outcome → State → Prop) (XC : String → State → State → Prop) (mc ms : Nat) (free : Addr → Prop) : Prop :=
  MetFree l y (headSpec ws rm) Pc (fun _ _ _ _ _ => True) (vx_Q Qc XC mc ms free)
def vx_Post (XC : String → State → State → Prop) (mc ms : Nat) (free : Addr → Prop) : Pt → Array Value → Addr → Pt → Prop := fun A a q B =>
  ∃ (g : JFrame) (mk : MethodId) (t : State) (L : List Loc) (E : String) (ce : Cell), B.U.heap = t.heap ∧ B.U.vm = t.vm ∧ XC E (A.U.calling g mk a) t ∧ t.heap[q]? = some ce ∧ ce.vm = .none ∧ A.U.vm.findClass E = some ce.cls ∧ B.locs = A.locs ++ L ∧ (∀ z ∈ L, free z.base) ∧ B.cells = A.cells + mc ∧ B.slots = A.slots + ms
def vx_Back (l : Launch) (R : Room) (p : Program) (e : Env) (below : List Frame) (s : State) (sargs : Array Value) (y : MethodName) (len W9 : Nat)
    (Pre : Pt → Array Value → Prop) (Post : Pt → Array Value → Option Value → Pt → Prop) (PostX : Pt → Array Value → Addr → Pt → Prop) : Prop :=
  ∀ (m : MethodId) (meth : Method) (c : Code) (A : Pt) (g : JFrame) (ig : Instr) (mk : MethodId) (a : Array Value),
    Stand p l e R s m sargs below meth c A.U A.locs A.cells A.slots → g.method = m → g.locals.size = c.maxLocals → decode c.code g.pc = .ok (ig, len) →
    2 * g.monitorRoom + (g.stack.map fun v => v.category).sum ≤ W9 → A.U.methodNamed? y = some mk → Pre A a →
    (∃ (v : Option Value) (B : Pt), Stand p l e R s m sargs below meth c B.U B.locs B.cells B.slots ∧ Post A a v B ∧
      Steps p.tables e below (doInvoke e (A.U.setTop g) [] mk a).1 (B.U.setTop { g with pc := g.pc + len, stack := v.toList ++ g.stack })) ∨
    (∃ (q : Addr) (B : Pt), Stand p l e R s m sargs below meth c B.U B.locs B.cells B.slots ∧ PostX A a q B ∧
      Steps p.tables e below (doInvoke e (A.U.setTop g) [] mk a).1 ((B.U.setTop g).pushFrame (.throwing q)))
section Payer
variable {l : Launch} {R : Room} {p : Program} {e : Env} {below : List Frame} {s : State} {sargs : Array Value} {y : MethodName} {len W9 : Nat}
theorem vx_back {ws : List Cond} {rm : Room} {Pc : Array Value → State → Prop} {Qc : Array Value → State → Outcome → State → Prop} {XC : String → State → State → Prop} {mc ms : Nat} {free : Addr → Prop} {bytes : ByteArray} {maxL : Nat} {ret : Option FieldType}
    (hM : vx_Met l y ws rm Pc Qc XC mc ms free) (hblind : FrameBlind Pc) (hrc : rm.cells = mc) (hrs : rm.slots = ms)
    (hframes : rm.frames + 1 ≤ R.frames) (hlocals : W9 + (maxL + 11) + rm.locals ≤ R.locals)
    (hws : ∀ w ∈ ws, ∀ a' U, s.WarmedH U.vm → w.before a' U = true) (hcode : Cond.code y bytes maxL ret ∈ ws) (hinit : ∀ a' U, s.WarmedH U.vm → (Cond.initialized y.cls).before a' U = true) :
    vx_Back l R p e below s sargs y len W9 (PreOf R mc ms Pc) (PostOf Qc mc ms free) (vx_Post XC mc ms free) := by
  intro m meth c A g ig mk a X hg hsize hdg hW hn hp
  have h1 : (headSpec ws rm).pre.before a A.U = true := atoms_intro fun w hw => hws w hw _ _ X.warmed
  have h2 : (Cond.code y bytes maxL ret).before a A.U = true := hws _ hcode _ _ X.warmed
  have h3 : (Cond.initialized y.cls).before a A.U = true := hinit _ _ X.warmed
  have h4 : A.cells + (headSpec ws rm).room.cells ≤ R.cells := by rw [show (headSpec ws rm).room.cells = mc from hrc]; exact hp.1
  have h5 : A.slots + (headSpec ws rm).room.slots ≤ R.slots := by rw [show (headSpec ws rm).room.slots = ms from hrs]; exact hp.2.1
  have hPc : Pc a (A.U.calling g mk a) := hblind _ _ _ _ hp.2.2
  obtain ⟨U, Ls, c0, s0⟩ := A
  dsimp only [Pt.U, Pt.locs, Pt.cells, Pt.slots] at h1 h2 h3 h4 h5 X hn hPc ⊢
  obtain ⟨methY, cY, hmY, hcY, -, hlY, -, -, -, -⟩ := Cond.code_spec hn h2
  obtain ⟨kY, hkY, -⟩ := className_of_methodNamed hn
  have hinitY : kY.init = .initialized := Cond.initialized_spec (findClass_of_methodNamed hn) hkY h3
  have h : At U g.method c below := by rw [hg]; exact X.here
  have hlocals9 : W9 + (maxL + 11) + (headSpec ws rm).room.locals ≤ R.locals := hlocals
  have happ : (headSpec ws rm).appliesLoose y e.platform (U.calling g mk a) = true :=
    Spec.appliesLoose_calling (g := g) h hdg hn hkY hinitY
      (X.room_calling (g := g) (R' := (headSpec ws rm).room) hsize hmY hcY hframes (by rw [hlY]; omega) h4 h5) h1
  obtain ⟨mid, hmid⟩ := h.above
  have hfr : (U.setTop g).frames = (.java g :: mid) ++ below := by rw [State.frames_setTop' g h.top, hmid]; rfl
  obtain ⟨o, s₂, hsteps, -, hend, hq⟩ := Steps.callFree hM p X.admits X.cas X.clock (acts := []) hfr happ hPc trivial
  have hq' : vx_Q Qc XC mc ms free a (U.calling g mk a) o s₂ := hq
  rw [State.frames_setTop' g h.top] at hend
  obtain ⟨g₀, hg0⟩ := Option.isSome_iff_exists.mp h.top
  obtain ⟨r, hr⟩ := State.topJava?_eq_some.mp hg0
  have hr' : (({ U with heap := s₂.heap, slotsUsed := s₂.slotsUsed } : State).setVm s₂.vm).frames = .java g₀ :: r := hr
  rcases hq' with ⟨hqc, L, hfe, hL⟩ | ⟨q, rfl, E, ce, L, hx, hce, hcv, hcl, hW₂, hsm, hL⟩
  · obtain ⟨⟨v, rfl⟩, hW₂, e2, q2, q3, q4, q5, q6⟩ := id hfe
    have e3 : s₂ = ({ (U.calling g mk a).setFrames s₂.frames with heap := s₂.heap, slotsUsed := s₂.slotsUsed } : State).setVm s₂.vm := by
      have : s₂ = ({ s₂ with vm := (U.calling g mk a).vm } : State).setVm s₂.vm := rfl
      rw [e2] at this
      exact this
    obtain ⟨c₂, i₂, len₂, hc₂, hd₂, hf₂⟩ := hend
    have hW' : U.WarmedH s₂.vm := hW₂
    have hcc : c₂ = c := by
      have h1 : s₂.code? g.method = U.code? g.method := by
        rw [State.code?_eq, State.code?_eq, hW'.alike.method?]
      exact Option.some.inj (hc₂.symm.trans (h1.trans h.code))
    subst hcc
    have hlen : len₂ = len := by rw [hdg] at hd₂; cases hd₂; rfl
    subst hlen
    have hs₂ : s₂ = (({ U with heap := s₂.heap, slotsUsed := s₂.slotsUsed } : State).setVm s₂.vm).setTop { g with pc := g.pc + len₂, stack := v.toList ++ g.stack } := by
      refine e3.trans ?_
      rw [hf₂, State.calling_eq h.top, State.setFrames_setFrames, State.setTop_of_frames _ hr', hr]
      rfl
    have hsame : U.sameButNew ({ U with heap := s₂.heap, slotsUsed := s₂.slotsUsed } : State) L mc ms := by
      refine ⟨?_, q2, q3, q4, q5, q6⟩
      obtain ⟨t, ht, -⟩ := State.frames_cons hr
      show ({ U with heap := s₂.heap, slotsUsed := s₂.slotsUsed } : State) = { U.setFrames U.frames with heap := s₂.heap, slotsUsed := s₂.slotsUsed }
      rw [State.setFrames_self ht]
    subst hg
    refine Or.inl ⟨v, ⟨(({ U with heap := s₂.heap, slotsUsed := s₂.slotsUsed } : State).setVm s₂.vm), Ls ++ L, c0 + mc, s0 + ms⟩,
      ⟨X.admits, X.cas, X.clock, X.frames, X.room, X.hears, X.method, X.code, (X.here.setHeapUsed s₂.heap s₂.slotsUsed).setVm hW'.alike, X.tail, State.WarmedH.trans X.warmed hW', X.limits, X.bytes, X.same.trans (hsame.setVm s.vm)⟩,
      ⟨g, mk, s₂, L, rfl, rfl, hqc, rfl, hL, rfl, rfl⟩, ?_⟩
    show Steps p.tables e below _ ((({ U with heap := s₂.heap, slotsUsed := s₂.slotsUsed } : State).setVm s₂.vm).setTop { g with pc := g.pc + len₂, stack := v.toList ++ g.stack })
    rw [← hs₂]
    exact hsteps
  · obtain ⟨e2, q2, q3, q4, q5, q6⟩ := id hsm
    have e3 : s₂ = ({ (U.calling g mk a).setFrames s₂.frames with heap := s₂.heap, slotsUsed := s₂.slotsUsed } : State).setVm s₂.vm := by
      have : s₂ = ({ s₂ with vm := (U.calling g mk a).vm } : State).setVm s₂.vm := rfl
      rw [e2] at this
      exact this
    have hf₂ : s₂.frames = .throwing q :: .java g :: U.frames.tail := hend
    have hW' : U.WarmedH s₂.vm := hW₂
    have hs₂ : s₂ = ((({ U with heap := s₂.heap, slotsUsed := s₂.slotsUsed } : State).setVm s₂.vm).setTop g).pushFrame (.throwing q) := by
      refine e3.trans ?_
      rw [hf₂, State.calling_eq h.top, State.setFrames_setFrames, State.pushFrame, State.frames_setTop _ hr', State.setTop_of_frames _ hr', State.setFrames_setFrames, hr]
      rfl
    have hsame : U.sameButNew ({ U with heap := s₂.heap, slotsUsed := s₂.slotsUsed } : State) L mc ms := by
      refine ⟨?_, q2, q3, q4, q5, q6⟩
      obtain ⟨t, ht, -⟩ := State.frames_cons hr
      show ({ U with heap := s₂.heap, slotsUsed := s₂.slotsUsed } : State) = { U.setFrames U.frames with heap := s₂.heap, slotsUsed := s₂.slotsUsed }
      rw [State.setFrames_self ht]
    subst hg
    refine Or.inr ⟨q, ⟨(({ U with heap := s₂.heap, slotsUsed := s₂.slotsUsed } : State).setVm s₂.vm), Ls ++ L, c0 + mc, s0 + ms⟩,
      ⟨X.admits, X.cas, X.clock, X.frames, X.room, X.hears, X.method, X.code, (X.here.setHeapUsed s₂.heap s₂.slotsUsed).setVm hW'.alike, X.tail, State.WarmedH.trans X.warmed hW', X.limits, X.bytes, X.same.trans (hsame.setVm s.vm)⟩,
      ⟨g, mk, s₂, L, E, ce, rfl, rfl, hx, hce, hcv, hcl, rfl, hL, rfl, rfl⟩, ?_⟩
    show Steps p.tables e below _ (((({ U with heap := s₂.heap, slotsUsed := s₂.slotsUsed } : State).setVm s₂.vm).setTop g).pushFrame (.throwing q))
    rw [← hs₂]
    exact hsteps
end Payer
section Calls
variable {p : Program} {l : Launch} {e : Env} {R : Room} {s : State} {m : MethodId} {args : Array Value} {below : List Frame} {meth : Method} {c : Code} {T : State} {locs : List Loc} {cells slots : Nat}
theorem vx_callV (X : Stand p l e R s m args below meth c T locs cells slots) (hexec : p.tables.exec = Jvm.exec) {own C : String} {index : Nat} {y : MethodName} {bytes : ByteArray} {maxL : Nat} {ret : Option FieldType}
    (hown : s.vm.findClass own = some m.cls) (hlink : (Cond.methodLink own index y).before args s = true) (hinst : (Cond.instanceMethod y).before args s = true) (hsel : (Cond.selects C y y).before args s = true)
    (hcode : (Cond.code y bytes maxL ret).before args s = true) (hy : y.cls ≠ "java/lang/invoke/MethodHandle" ∧ y.cls ≠ "java/lang/invoke/VarHandle")
    {W9 : Nat} {Pre : Pt → Array Value → Prop} {Post : Pt → Array Value → Option Value → Pt → Prop} {PostX : Pt → Array Value → Addr → Pt → Prop} (hK : vx_Back l R p e below s args y 3 W9 Pre Post PostX)
    {b : Addr} {cellB : Cell} (hcell : T.heap[b]? = some cellB) (hobj : cellB.vm.isStatics = false) (hcls : s.vm.findClass C = some cellB.cls)
    {g : JFrame} (hg : g.method = m) (hsize : g.locals.size = c.maxLocals) {argsL rest : List Value} (hlen : ∀ sig, parseMethodDescriptor y.desc = some sig → argsL.length = sig.parameters.length)
    (hstack : g.stack = argsL.reverse ++ .ref b :: rest) (hW : 2 * g.monitorRoom + (rest.map fun v => v.category).sum ≤ W9) (hdg : decode c.code g.pc = .ok (.invokevirtual index, 3))
    (hpre : ∀ vm₁, s.WarmedH vm₁ → Pre ⟨T.setVm vm₁, locs, cells, slots⟩ (Value.ref b :: argsL).toArray) :
    (∃ (v : Option Value) (vm₁ : Vm) (B : Pt), s.WarmedH vm₁ ∧ Stand p l e R s m args below meth c B.U B.locs B.cells B.slots ∧ Post ⟨T.setVm vm₁, locs, cells, slots⟩ (Value.ref b :: argsL).toArray v B ∧
      ∀ target, Steps p.tables e below (B.U.setTop { g with pc := g.pc + 3, stack := v.toList ++ rest }) target → Steps p.tables e below (T.setTop g) target) ∨
    (∃ (q : Addr) (vm₁ : Vm) (B : Pt), s.WarmedH vm₁ ∧ Stand p l e R s m args below meth c B.U B.locs B.cells B.slots ∧ PostX ⟨T.setVm vm₁, locs, cells, slots⟩ (Value.ref b :: argsL).toArray q B ∧
      Steps p.tables e below (T.setTop g) ((B.U.setTop { g with stack := rest }).pushFrame (.throwing q))) := by
  obtain ⟨mk, methM, hnamed, hmethM, hstM, habM⟩ := Cond.instanceMethod_spec hinst
  obtain ⟨methM', cM, hmethM', -, -, -, -, -, -, hsigM⟩ := Cond.code_spec hnamed hcode
  cases hmethM.symm.trans hmethM'
  obtain ⟨c2, r2, m2, q1, q2, q3, q4, kP, hkP, hkPi⟩ := Cond.selects_spec hsel
  cases hcls.symm.trans q1
  cases (State.methodFound?_of_named hnamed hy).symm.trans q2
  cases hnamed.symm.trans q3
  have hselP : selectMethod e.platform s.vm cellB.cls mk = .method mk := by rw [Launch.admits_selectMethod X.admits]; exact q4
  obtain ⟨vm₁, X₁, hstep₁⟩ := X.invokevirtual hexec hown hlink hnamed hmethM hstM hkP hkPi hy (a := b) (cell := cellB) hcell
    (fun z h => by rw [h] at hobj; cases hobj) hselP hmethM habM hkP hkPi (g := g) hg (argsL := argsL) (rest := rest) (hlen _ hsigM) hstack hdg
  rcases hK m meth c ⟨T.setVm vm₁, locs, cells, slots⟩ { g with stack := rest } (.invokevirtual index) mk (Value.ref b :: argsL).toArray X₁ hg hsize hdg hW (X₁.named hnamed) (hpre vm₁ X₁.warmed) with ⟨v, B, X', hpost, hsteps⟩ | ⟨q, B, X', hpost, hsteps⟩
  · exact Or.inl ⟨v, vm₁, B, X₁.warmed, X', hpost, fun target h => hstep₁ _ fun acts => by rw [doInvoke_state]; exact hsteps.trans h⟩
  · exact Or.inr ⟨q, vm₁, B, X₁.warmed, X', hpost, hstep₁ _ fun acts => by rw [doInvoke_state]; exact hsteps⟩
theorem vx_callS (X : Stand p l e R s m args below meth c T locs cells slots) (hexec : p.tables.exec = Jvm.exec) {own : String} {index : Nat} {y : MethodName} {bytes : ByteArray} {maxL : Nat} {ret : Option FieldType}
    (hown : s.vm.findClass own = some m.cls) (hlink : (Cond.methodLink own index y).before args s = true) (hstat : (Cond.static y).before args s = true) (hinit : (Cond.initialized y.cls).before args s = true)
    (hcode : (Cond.code y bytes maxL ret).before args s = true) (hy : y.cls ≠ "java/lang/invoke/MethodHandle" ∧ y.cls ≠ "java/lang/invoke/VarHandle")
    {W9 : Nat} {Pre : Pt → Array Value → Prop} {Post : Pt → Array Value → Option Value → Pt → Prop} {PostX : Pt → Array Value → Addr → Pt → Prop} (hK : vx_Back l R p e below s args y 3 W9 Pre Post PostX)
    {g : JFrame} (hg : g.method = m) (hsize : g.locals.size = c.maxLocals) {argsL rest : List Value} (hlen : ∀ sig, parseMethodDescriptor y.desc = some sig → argsL.length = sig.parameters.length)
    (hstack : g.stack = argsL.reverse ++ rest) (hW : 2 * g.monitorRoom + (rest.map fun v => v.category).sum ≤ W9) (hdg : decode c.code g.pc = .ok (.invokestatic index, 3))
    (hpre : ∀ vm₁, s.WarmedH vm₁ → Pre ⟨T.setVm vm₁, locs, cells, slots⟩ argsL.toArray) :
    (∃ (v : Option Value) (vm₁ : Vm) (B : Pt), s.WarmedH vm₁ ∧ Stand p l e R s m args below meth c B.U B.locs B.cells B.slots ∧ Post ⟨T.setVm vm₁, locs, cells, slots⟩ argsL.toArray v B ∧
      ∀ target, Steps p.tables e below (B.U.setTop { g with pc := g.pc + 3, stack := v.toList ++ rest }) target → Steps p.tables e below (T.setTop g) target) ∨
    (∃ (q : Addr) (vm₁ : Vm) (B : Pt), s.WarmedH vm₁ ∧ Stand p l e R s m args below meth c B.U B.locs B.cells B.slots ∧ PostX ⟨T.setVm vm₁, locs, cells, slots⟩ argsL.toArray q B ∧
      Steps p.tables e below (T.setTop g) ((B.U.setTop { g with stack := rest }).pushFrame (.throwing q))) := by
  obtain ⟨mk, hnamed⟩ := Cond.code_named hcode
  obtain ⟨methM, cM, hmethM, -, -, -, -, -, -, hsigM⟩ := Cond.code_spec hnamed hcode
  have hstatic : methM.isStatic = true := Cond.static_spec hnamed hmethM hstat
  obtain ⟨kP, hkP, -⟩ := className_of_methodNamed hnamed
  have hinitP : kP.init = .initialized := Cond.initialized_spec (findClass_of_methodNamed hnamed) hkP hinit
  obtain ⟨vm₁, X₁, hstep₁⟩ := X.invokestatic hexec hown hlink hnamed hmethM hstatic hkP hinitP hy (g := g) hg (argsL := argsL) (rest := rest) (hlen _ hsigM) hstack hdg
  rcases hK m meth c ⟨T.setVm vm₁, locs, cells, slots⟩ { g with stack := rest } (.invokestatic index) mk argsL.toArray X₁ hg hsize hdg hW (X₁.named hnamed) (hpre vm₁ X₁.warmed) with ⟨v, B, X', hpost, hsteps⟩ | ⟨q, B, X', hpost, hsteps⟩
  · exact Or.inl ⟨v, vm₁, B, X₁.warmed, X', hpost, fun target h => hstep₁ _ fun acts => by rw [doInvoke_state]; exact hsteps.trans h⟩
  · exact Or.inr ⟨q, vm₁, B, X₁.warmed, X', hpost, hstep₁ _ fun acts => by rw [doInvoke_state]; exact hsteps⟩
end Calls
theorem vx_cls {s : State} {T : State} {vm₁ : Vm} {E : String} {k : ClassId} (hW : s.WarmedH vm₁) (h : (T.setVm vm₁).vm.findClass E = some k) : s.vm.findClass E = some k := by
  have h1 : vm₁.findClass E = some k := h
  rw [hW.alike.findClass] at h1
  exact h1
/-- the method's frame g, with q thrown over it -/
def vx_W (p : Program) (l : Launch) (e : Env) (R : Room) (s : State) (m : MethodId) (args : Array Value) (below : List Frame) (meth : Method) (c : Code) (H : Heap) (locs : List Loc) (cells slots : Nat) (Q : State → Prop) (g : JFrame) (q : Addr) : Prop :=
  ∀ T : State, T.heap = H → Stand p l e R s m args below meth c T locs cells slots → ∃ t, Steps p.tables e below ((T.setTop g).pushFrame (.throwing q)) t ∧ Q t
def vx_Run (p : Program) (l : Launch) (e : Env) (R : Room) (s : State) (m : MethodId) (args : Array Value) (below : List Frame) (meth : Method) (c : Code) (H : Heap) (locs : List Loc) (cells slots mc ms : Nat) (g : JFrame) (rest : List Value) (Qa : State → Outcome → State → Prop) (XC : String → State → State → Prop) (free : Addr → Prop) : Prop :=
  ∀ T : State, T.heap = H → Stand p l e R s m args below meth c T locs cells slots →
    (∃ (v : Option Value) (st₀ t T' : State) (L : List Loc), st₀.heap = H ∧ Stand p l e R s m args below meth c T' (locs ++ L) (cells + mc) (slots + ms) ∧ (∀ q ∈ L, free q.base) ∧ T'.heap = t.heap ∧ T'.vm = t.vm ∧ Qa st₀ (.returned v) t ∧
      Goes p e below T g T' { g with pc := g.pc + 3, stack := v.toList ++ rest }) ∨
    (∃ (q : Addr) (st₀ t T' : State) (L : List Loc) (E : String) (ce : Cell), st₀.heap = H ∧ Stand p l e R s m args below meth c T' (locs ++ L) (cells + mc) (slots + ms) ∧ (∀ z ∈ L, free z.base) ∧ T'.heap = t.heap ∧ T'.vm = t.vm ∧ XC E st₀ t ∧ t.heap[q]? = some ce ∧ ce.vm = .none ∧ s.vm.findClass E = some ce.cls ∧
      Steps p.tables e below (T.setTop g) ((T'.setTop { g with stack := rest }).pushFrame (.throwing q)))
def vx_X {S : Type} (px : S → Prop) (B : String → S → State → Prop) (A : Nat → Prop) : String → State → State → Prop := fun E st t => ∃ u : S, px u ∧ B E u t ∧ va_F A st t
section Runs
variable {p : Program} {l : Launch} {e : Env} {R : Room} {s : State} {m : MethodId} {args : Array Value} {below : List Frame} {meth : Method} {c : Code} {H : Heap} {locs : List Loc} {cells slots : Nat}
variable {y : MethodName} {bytes cc : ByteArray} {maxL nL mc ms n index : Nat} {ret : Option FieldType} {ws : List Cond} {rm : Room} {Pc : Array Value → State → Prop} {Qc : Array Value → State → Outcome → State → Prop} {XC : String → State → State → Prop} {free : Addr → Prop} {Ts : List Cond} {own C : String} {b : Addr} {As rest : List Value} {g : JFrame}
theorem vx_callBack (cb : CallB R s args own index y bytes maxL ret ws rm mc ms n) (hM : vx_Met l y ws rm Pc Qc XC mc ms free) (hbl : FrameBlind Pc) : vx_Back l R p e below s args y 3 8 (PreOf R mc ms Pc) (PostOf Qc mc ms free) (vx_Post XC mc ms free) := by
  obtain ⟨hrc, hrs, hfr, hlo, hws, hcw, -, hini, -⟩ := cb
  exact vx_back (bytes := bytes) (maxL := maxL) (ret := ret) hM hbl hrc hrs hfr hlo hws hcw (fun a' U hW => word_at hW (Or.inl (by first | rfl | simp [Cond.onTables, Cond.keeps, Cond.steady])) hini)
theorem vx_runV (S : CallFix p m c cc nL s args Ts own) (hM : vx_Met l y ws rm Pc Qc XC mc ms free) (cw : CallW R s args own C index y bytes maxL ret ws rm mc ms n) (hp : PreV s H C b Pc As)
    (hg : g.method = m) (hn : As.length = n) (hsize : g.locals.size = nL) (hstack : g.stack = As.reverse ++ .ref b :: rest) (hW : 2 * g.monitorRoom + (rest.map fun v => v.category).sum ≤ 8) (hdg : decode cc g.pc = .ok (.invokevirtual index, 3)) (hf : cells + mc ≤ R.cells ∧ slots + ms ≤ R.slots) :
    vx_Run p l e R s m args below meth c H locs cells slots mc ms g rest (Qc (Value.ref b :: As).toArray) XC free := by
  have hK : vx_Back l R p e below s args y 3 8 (PreOf R mc ms Pc) (PostOf Qc mc ms free) (vx_Post XC mc ms free) := vx_callBack cw.1 hM hp.1
  obtain ⟨⟨-, -, -, -, -, -, hcode, -, hy, hlen, hl⟩, hin, hse⟩ := cw
  obtain ⟨hx, hb, hml, ho, -⟩ := S
  obtain ⟨-, ⟨cellB, hcB, hoB, hclB⟩, hPc⟩ := hp
  intro T hT X
  rcases vx_callV X hx (C := C) (bytes := bytes) (maxL := maxL) (ret := ret) ho hl hin hse hcode hy hK (by rw [hT]; exact hcB) hoB hclB hg (hsize.trans hml.symm) (argsL := As) (rest := rest) (fun sig h => hn.trans (hlen sig h)) hstack hW (by rw [hb]; exact hdg)
    (fun vm₁ hW₁ => ⟨hf.1, hf.2, hPc (T.setVm vm₁) hT hW₁⟩) with ⟨v, vm₁, ⟨U', l2, c2, s2⟩, hW₁, X', ⟨g', mk, t, L, e1, e2, hq, h1, hL, h2, h3⟩, st⟩ | ⟨q, vm₁, ⟨U', l2, c2, s2⟩, hW₁, X', ⟨g', mk, t, L, E, ce, e1, e2, hq, hce, hcv, hcl, h1, hL, h2, h3⟩, st⟩
  · dsimp only [Pt.U, Pt.locs, Pt.cells, Pt.slots] at X' e1 e2 h1 h2 h3 st
    subst h1; subst h2; subst h3
    exact Or.inl ⟨v, (T.setVm vm₁).calling g' mk (Value.ref b :: As).toArray, t, U', L, hT, X', hL, e1, e2, hq, st⟩
  · dsimp only [Pt.U, Pt.locs, Pt.cells, Pt.slots] at X' e1 e2 h1 h2 h3 st hcl
    subst h1; subst h2; subst h3
    exact Or.inr ⟨q, (T.setVm vm₁).calling g' mk (Value.ref b :: As).toArray, t, U', L, E, ce, hT, X', hL, e1, e2, hq, hce, hcv, vx_cls hW₁ hcl, st⟩
theorem vx_runS (S : CallFix p m c cc nL s args Ts own) (hM : vx_Met l y ws rm Pc Qc XC mc ms free) (cw : CallB R s args own index y bytes maxL ret ws rm mc ms n ∧ (Cond.static y).before args s = true) (hp : PreS s H Pc As)
    (hg : g.method = m) (hn : As.length = n) (hsize : g.locals.size = nL) (hstack : g.stack = As.reverse ++ rest) (hW : 2 * g.monitorRoom + (rest.map fun v => v.category).sum ≤ 8) (hdg : decode cc g.pc = .ok (.invokestatic index, 3)) (hf : cells + mc ≤ R.cells ∧ slots + ms ≤ R.slots) :
    vx_Run p l e R s m args below meth c H locs cells slots mc ms g rest (Qc As.toArray) XC free := by
  have hK : vx_Back l R p e below s args y 3 8 (PreOf R mc ms Pc) (PostOf Qc mc ms free) (vx_Post XC mc ms free) := vx_callBack cw.1 hM hp.1
  obtain ⟨⟨-, -, -, -, -, -, hcode, hini, hy, hlen, hl⟩, hstt⟩ := cw
  obtain ⟨hx, hb, hml, ho, -⟩ := S
  intro T hT X
  rcases vx_callS X hx (bytes := bytes) (maxL := maxL) (ret := ret) ho hl hstt hini hcode hy hK hg (hsize.trans hml.symm) (argsL := As) (rest := rest) (fun sig h => hn.trans (hlen sig h)) hstack hW (by rw [hb]; exact hdg)
    (fun vm₁ hW₁ => ⟨hf.1, hf.2, hp.2 (T.setVm vm₁) hT hW₁⟩) with ⟨v, vm₁, ⟨U', l2, c2, s2⟩, hW₁, X', ⟨g', mk, t, L, e1, e2, hq, h1, hL, h2, h3⟩, st⟩ | ⟨q, vm₁, ⟨U', l2, c2, s2⟩, hW₁, X', ⟨g', mk, t, L, E, ce, e1, e2, hq, hce, hcv, hcl, h1, hL, h2, h3⟩, st⟩
  · dsimp only [Pt.U, Pt.locs, Pt.cells, Pt.slots] at X' e1 e2 h1 h2 h3 st
    subst h1; subst h2; subst h3
    exact Or.inl ⟨v, (T.setVm vm₁).calling g' mk As.toArray, t, U', L, hT, X', hL, e1, e2, hq, st⟩
  · dsimp only [Pt.U, Pt.locs, Pt.cells, Pt.slots] at X' e1 e2 h1 h2 h3 st hcl
    subst h1; subst h2; subst h3
    exact Or.inr ⟨q, (T.setVm vm₁).calling g' mk As.toArray, t, U', L, E, ce, hT, X', hL, e1, e2, hq, hce, hcv, vx_cls hW₁ hcl, st⟩
end Runs
section Rows
variable {p : Program} {l : Launch} {e : Env} {R : Room} {s : State} {m : MethodId} {args : Array Value} {below : List Frame} {meth : Method} {c : Code} {H : Heap} {locs : List Loc} {cells slots : Nat} {Q : State → Prop}
variable {mc ms : Nat} {free : Addr → Prop} {A0 A1 : Nat → Prop} {H0 : Heap} {a : Array Value} {pc : Nat} {ls : Array Slot} {st0 rest : List Value}
theorem vx_keep {st₀ t T' : State} {L : List Loc} (h0 : st₀.heap = H) (e1 : T'.heap = t.heap) (hS : va_S A0 H0 H locs) (hA : ∀ q, q < H.size → A1 q → A0 q) (hf : ∀ q, free q → A0 q) (hL : ∀ q ∈ L, free q.base) (hF : va_F A1 st₀ t) :
    H.size ≤ T'.heap.size ∧ (∀ q : Nat, q < H.size → ¬ A1 q → T'.heap[q]? = H[q]?) ∧ va_S A0 H0 T'.heap (locs ++ L) := by
  obtain ⟨hz, hk⟩ := hF
  rw [h0] at hz hk
  exact ⟨by rw [e1]; exact hz, fun q h1 h2 => by rw [e1]; exact hk q h1 h2,
    ⟨Nat.le_trans hS.1 (by rw [e1]; exact hz), fun q h1 h2 => by rw [e1, hk q (Nat.lt_of_lt_of_le h1 hS.1) (fun z => h2 (hA q (Nat.lt_of_lt_of_le h1 hS.1) z))]; exact hS.2.1 q h1 h2, fun q hq => by
      rcases List.mem_append.mp hq with h | h
      · exact hS.2.2 q h
      · exact hf _ (hL q h)⟩⟩
theorem vx_calli {S SX : Type} {post : Int32 → S → Prop} {px : SX → Prop} {B : S → State → Prop} {BX : String → SX → State → Prop} {AX : Nat → Prop} (hr : vx_Run p l e R s m args below meth c H locs cells slots mc ms (F0 m pc ls st0) rest (va_Qi post B A1 a) (vx_X px BX AX) free) (hS : va_S A0 H0 H locs) (hA : ∀ q, q < H.size → A1 q → A0 q) (hf : ∀ q, free q → A0 q) (hAX : ∀ q, q < H.size → AX q → A0 q)
    (kx : ∀ (E : String) (ce : Cell) (q9 : Addr) (u : SX) (t : State) (H1 : Heap) (locs1 : List Loc), t.heap = H1 → s.vm.Alike t.vm → px u → BX E u t → H.size ≤ H1.size → (∀ q : Nat, q < H.size → ¬ AX q → H1[q]? = H[q]?) → va_S A0 H0 H1 locs1 → H1[q9]? = some ce → ce.vm = .none → s.vm.findClass E = some ce.cls → vx_W p l e R s m args below meth c H1 locs1 (cells + mc) (slots + ms) Q (F0 m pc ls rest) q9)
    (kk : ∀ (r : Int32) (u : S) (t : State) (H1 : Heap) (locs1 : List Loc), t.heap = H1 → s.vm.Alike t.vm → post r u → B u t → H.size ≤ H1.size → (∀ q : Nat, q < H.size → ¬ A1 q → H1[q]? = H[q]?) → va_S A0 H0 H1 locs1 → W p l e R s m args below meth c H1 locs1 (cells + mc) (slots + ms) Q (F0 m (pc + 3) ls (.int r :: rest))) : W p l e R s m args below meth c H locs cells slots Q (F0 m pc ls st0) := by
  intro T hT X
  rcases hr T hT X with ⟨v, st₀, t, T', L, h0, X', hL, e1, e2, ⟨⟨r, u, hv, hp, hb⟩, hF⟩, st⟩ | ⟨q, st₀, t, T', L, E, ce, h0, X', hL, e1, e2, ⟨u, hp, hb, hF⟩, hce, hcv, hcl, st⟩
  · cases hv
    obtain ⟨k1, k2, k3⟩ := vx_keep h0 e1 hS hA hf hL hF
    obtain ⟨t2, a1, b1⟩ := kk r u t T'.heap (locs ++ L) e1.symm (by rw [← e2]; exact X'.warmed.alike) hp hb k1 k2 k3 T' rfl X'
    exact ⟨t2, st t2 a1, b1⟩
  · obtain ⟨k1, k2, k3⟩ := vx_keep h0 e1 hS hAX hf hL hF
    obtain ⟨t2, a1, b1⟩ := kx E ce q u t T'.heap (locs ++ L) e1.symm (by rw [← e2]; exact X'.warmed.alike) hp hb k1 k2 k3 (by rw [e1]; exact hce) hcv hcl T' rfl X'
    exact ⟨t2, st.trans a1, b1⟩
theorem vx_calll {S SX : Type} {post : Int64 → S → Prop} {px : SX → Prop} {B : S → State → Prop} {BX : String → SX → State → Prop} {AX : Nat → Prop} (hr : vx_Run p l e R s m args below meth c H locs cells slots mc ms (F0 m pc ls st0) rest (va_Ql post B A1 a) (vx_X px BX AX) free) (hS : va_S A0 H0 H locs) (hA : ∀ q, q < H.size → A1 q → A0 q) (hf : ∀ q, free q → A0 q) (hAX : ∀ q, q < H.size → AX q → A0 q)
    (kx : ∀ (E : String) (ce : Cell) (q9 : Addr) (u : SX) (t : State) (H1 : Heap) (locs1 : List Loc), t.heap = H1 → s.vm.Alike t.vm → px u → BX E u t → H.size ≤ H1.size → (∀ q : Nat, q < H.size → ¬ AX q → H1[q]? = H[q]?) → va_S A0 H0 H1 locs1 → H1[q9]? = some ce → ce.vm = .none → s.vm.findClass E = some ce.cls → vx_W p l e R s m args below meth c H1 locs1 (cells + mc) (slots + ms) Q (F0 m pc ls rest) q9)
    (kk : ∀ (r : Int64) (u : S) (t : State) (H1 : Heap) (locs1 : List Loc), t.heap = H1 → s.vm.Alike t.vm → post r u → B u t → H.size ≤ H1.size → (∀ q : Nat, q < H.size → ¬ A1 q → H1[q]? = H[q]?) → va_S A0 H0 H1 locs1 → W p l e R s m args below meth c H1 locs1 (cells + mc) (slots + ms) Q (F0 m (pc + 3) ls (.long r :: rest))) : W p l e R s m args below meth c H locs cells slots Q (F0 m pc ls st0) := by
  intro T hT X
  rcases hr T hT X with ⟨v, st₀, t, T', L, h0, X', hL, e1, e2, ⟨⟨r, u, hv, hp, hb⟩, hF⟩, st⟩ | ⟨q, st₀, t, T', L, E, ce, h0, X', hL, e1, e2, ⟨u, hp, hb, hF⟩, hce, hcv, hcl, st⟩
  · cases hv
    obtain ⟨k1, k2, k3⟩ := vx_keep h0 e1 hS hA hf hL hF
    obtain ⟨t2, a1, b1⟩ := kk r u t T'.heap (locs ++ L) e1.symm (by rw [← e2]; exact X'.warmed.alike) hp hb k1 k2 k3 T' rfl X'
    exact ⟨t2, st t2 a1, b1⟩
  · obtain ⟨k1, k2, k3⟩ := vx_keep h0 e1 hS hAX hf hL hF
    obtain ⟨t2, a1, b1⟩ := kx E ce q u t T'.heap (locs ++ L) e1.symm (by rw [← e2]; exact X'.warmed.alike) hp hb k1 k2 k3 (by rw [e1]; exact hce) hcv hcl T' rfl X'
    exact ⟨t2, st.trans a1, b1⟩
theorem vx_callf {S SX : Type} {post : UInt32 → S → Prop} {px : SX → Prop} {B : S → State → Prop} {BX : String → SX → State → Prop} {AX : Nat → Prop} (hr : vx_Run p l e R s m args below meth c H locs cells slots mc ms (F0 m pc ls st0) rest (va_Qf post B A1 a) (vx_X px BX AX) free) (hS : va_S A0 H0 H locs) (hA : ∀ q, q < H.size → A1 q → A0 q) (hf : ∀ q, free q → A0 q) (hAX : ∀ q, q < H.size → AX q → A0 q)
    (kx : ∀ (E : String) (ce : Cell) (q9 : Addr) (u : SX) (t : State) (H1 : Heap) (locs1 : List Loc), t.heap = H1 → s.vm.Alike t.vm → px u → BX E u t → H.size ≤ H1.size → (∀ q : Nat, q < H.size → ¬ AX q → H1[q]? = H[q]?) → va_S A0 H0 H1 locs1 → H1[q9]? = some ce → ce.vm = .none → s.vm.findClass E = some ce.cls → vx_W p l e R s m args below meth c H1 locs1 (cells + mc) (slots + ms) Q (F0 m pc ls rest) q9)
    (kk : ∀ (r : UInt32) (u : S) (t : State) (H1 : Heap) (locs1 : List Loc), t.heap = H1 → s.vm.Alike t.vm → post r u → B u t → H.size ≤ H1.size → (∀ q : Nat, q < H.size → ¬ A1 q → H1[q]? = H[q]?) → va_S A0 H0 H1 locs1 → W p l e R s m args below meth c H1 locs1 (cells + mc) (slots + ms) Q (F0 m (pc + 3) ls (.float r :: rest))) : W p l e R s m args below meth c H locs cells slots Q (F0 m pc ls st0) := by
  intro T hT X
  rcases hr T hT X with ⟨v, st₀, t, T', L, h0, X', hL, e1, e2, ⟨⟨r, u, hv, hp, hb⟩, hF⟩, st⟩ | ⟨q, st₀, t, T', L, E, ce, h0, X', hL, e1, e2, ⟨u, hp, hb, hF⟩, hce, hcv, hcl, st⟩
  · cases hv
    obtain ⟨k1, k2, k3⟩ := vx_keep h0 e1 hS hA hf hL hF
    obtain ⟨t2, a1, b1⟩ := kk r u t T'.heap (locs ++ L) e1.symm (by rw [← e2]; exact X'.warmed.alike) hp hb k1 k2 k3 T' rfl X'
    exact ⟨t2, st t2 a1, b1⟩
  · obtain ⟨k1, k2, k3⟩ := vx_keep h0 e1 hS hAX hf hL hF
    obtain ⟨t2, a1, b1⟩ := kx E ce q u t T'.heap (locs ++ L) e1.symm (by rw [← e2]; exact X'.warmed.alike) hp hb k1 k2 k3 (by rw [e1]; exact hce) hcv hcl T' rfl X'
    exact ⟨t2, st.trans a1, b1⟩
theorem vx_calld {S SX : Type} {post : UInt64 → S → Prop} {px : SX → Prop} {B : S → State → Prop} {BX : String → SX → State → Prop} {AX : Nat → Prop} (hr : vx_Run p l e R s m args below meth c H locs cells slots mc ms (F0 m pc ls st0) rest (va_Qd post B A1 a) (vx_X px BX AX) free) (hS : va_S A0 H0 H locs) (hA : ∀ q, q < H.size → A1 q → A0 q) (hf : ∀ q, free q → A0 q) (hAX : ∀ q, q < H.size → AX q → A0 q)
    (kx : ∀ (E : String) (ce : Cell) (q9 : Addr) (u : SX) (t : State) (H1 : Heap) (locs1 : List Loc), t.heap = H1 → s.vm.Alike t.vm → px u → BX E u t → H.size ≤ H1.size → (∀ q : Nat, q < H.size → ¬ AX q → H1[q]? = H[q]?) → va_S A0 H0 H1 locs1 → H1[q9]? = some ce → ce.vm = .none → s.vm.findClass E = some ce.cls → vx_W p l e R s m args below meth c H1 locs1 (cells + mc) (slots + ms) Q (F0 m pc ls rest) q9)
    (kk : ∀ (r : UInt64) (u : S) (t : State) (H1 : Heap) (locs1 : List Loc), t.heap = H1 → s.vm.Alike t.vm → post r u → B u t → H.size ≤ H1.size → (∀ q : Nat, q < H.size → ¬ A1 q → H1[q]? = H[q]?) → va_S A0 H0 H1 locs1 → W p l e R s m args below meth c H1 locs1 (cells + mc) (slots + ms) Q (F0 m (pc + 3) ls (.double r :: rest))) : W p l e R s m args below meth c H locs cells slots Q (F0 m pc ls st0) := by
  intro T hT X
  rcases hr T hT X with ⟨v, st₀, t, T', L, h0, X', hL, e1, e2, ⟨⟨r, u, hv, hp, hb⟩, hF⟩, st⟩ | ⟨q, st₀, t, T', L, E, ce, h0, X', hL, e1, e2, ⟨u, hp, hb, hF⟩, hce, hcv, hcl, st⟩
  · cases hv
    obtain ⟨k1, k2, k3⟩ := vx_keep h0 e1 hS hA hf hL hF
    obtain ⟨t2, a1, b1⟩ := kk r u t T'.heap (locs ++ L) e1.symm (by rw [← e2]; exact X'.warmed.alike) hp hb k1 k2 k3 T' rfl X'
    exact ⟨t2, st t2 a1, b1⟩
  · obtain ⟨k1, k2, k3⟩ := vx_keep h0 e1 hS hAX hf hL hF
    obtain ⟨t2, a1, b1⟩ := kx E ce q u t T'.heap (locs ++ L) e1.symm (by rw [← e2]; exact X'.warmed.alike) hp hb k1 k2 k3 (by rw [e1]; exact hce) hcv hcl T' rfl X'
    exact ⟨t2, st.trans a1, b1⟩
theorem vx_callv {S SX : Type} {post : S → Prop} {px : SX → Prop} {B : S → State → Prop} {BX : String → SX → State → Prop} {AX : Nat → Prop} (hr : vx_Run p l e R s m args below meth c H locs cells slots mc ms (F0 m pc ls st0) rest (va_Qv post B A1 a) (vx_X px BX AX) free) (hS : va_S A0 H0 H locs) (hA : ∀ q, q < H.size → A1 q → A0 q) (hf : ∀ q, free q → A0 q) (hAX : ∀ q, q < H.size → AX q → A0 q)
    (kx : ∀ (E : String) (ce : Cell) (q9 : Addr) (u : SX) (t : State) (H1 : Heap) (locs1 : List Loc), t.heap = H1 → s.vm.Alike t.vm → px u → BX E u t → H.size ≤ H1.size → (∀ q : Nat, q < H.size → ¬ AX q → H1[q]? = H[q]?) → va_S A0 H0 H1 locs1 → H1[q9]? = some ce → ce.vm = .none → s.vm.findClass E = some ce.cls → vx_W p l e R s m args below meth c H1 locs1 (cells + mc) (slots + ms) Q (F0 m pc ls rest) q9)
    (kk : ∀ (u : S) (t : State) (H1 : Heap) (locs1 : List Loc), t.heap = H1 → s.vm.Alike t.vm → post u → B u t → H.size ≤ H1.size → (∀ q : Nat, q < H.size → ¬ A1 q → H1[q]? = H[q]?) → va_S A0 H0 H1 locs1 → W p l e R s m args below meth c H1 locs1 (cells + mc) (slots + ms) Q (F0 m (pc + 3) ls (rest))) : W p l e R s m args below meth c H locs cells slots Q (F0 m pc ls st0) := by
  intro T hT X
  rcases hr T hT X with ⟨v, st₀, t, T', L, h0, X', hL, e1, e2, ⟨⟨u, hv, hp, hb⟩, hF⟩, st⟩ | ⟨q, st₀, t, T', L, E, ce, h0, X', hL, e1, e2, ⟨u, hp, hb, hF⟩, hce, hcv, hcl, st⟩
  · cases hv
    obtain ⟨k1, k2, k3⟩ := vx_keep h0 e1 hS hA hf hL hF
    obtain ⟨t2, a1, b1⟩ := kk u t T'.heap (locs ++ L) e1.symm (by rw [← e2]; exact X'.warmed.alike) hp hb k1 k2 k3 T' rfl X'
    exact ⟨t2, st t2 a1, b1⟩
  · obtain ⟨k1, k2, k3⟩ := vx_keep h0 e1 hS hAX hf hL hF
    obtain ⟨t2, a1, b1⟩ := kx E ce q u t T'.heap (locs ++ L) e1.symm (by rw [← e2]; exact X'.warmed.alike) hp hb k1 k2 k3 (by rw [e1]; exact hce) hcv hcl T' rfl X'
    exact ⟨t2, st.trans a1, b1⟩
/-- caught by the row x of this method's table; the rows ahead don't take it -/
theorem vx_catch {own name : String} {E : String} {ce : Cell} {q : Addr} (hown : s.vm.findClass own = some m.cls) (pre : List ExceptionTableEntry) (x : ExceptionTableEntry) (suf : List ExceptionTableEntry) (hsplit : c.exceptionTable.toList = pre ++ x :: suf)
    (hpass : ∀ z ∈ pre, covers z pc = false ∨ (z.catchType ≠ 0 ∧ ∃ nm : String, (Cond.classLink own z.catchType nm).before args s = true ∧ va_Nc E nm s)) (hx : covers x pc = true) (h0 : x.catchType ≠ 0)
    (hlink : (Cond.classLink own x.catchType name).before args s = true) (hcast : (Cond.castable E name).before args s = true) (hcell : H[q]? = some ce) (hv : ce.vm = .none) (hcl : s.vm.findClass E = some ce.cls)
    (kk : W p l e R s m args below meth c H locs cells slots Q (F0 m x.handlerPc ls [.ref q])) : vx_W p l e R s m args below meth c H locs cells slots Q (F0 m pc ls rest) q := by
  intro T hT X
  have hpl : e.platform.magicAccessors = ({} : Platform).magicAccessors := by rw [X.admits.platform]
  obtain ⟨c3, c4, hc3, hc4, hasg⟩ := Cond.castable_spec hcast
  cases Option.some.inj (hc3.symm.trans hcl)
  obtain ⟨c5, hc5, hcl5⟩ := Cond.classLink_spec hown hlink e.platform hpl
  cases Option.some.inj (hc4.symm.trans hc5)
  obtain ⟨vm', X', st⟩ := X.thenCaughtThrough q (g := F0 m pc ls rest) rfl (Steps.refl _) (by rw [hT]; exact hcell) (by rw [hv]; rfl) (by obtain ⟨k9, h9, -⟩ := Vm.findClass_spec hcl; exact ⟨k9, h9⟩) pre x suf hsplit
    (fun z hz => by
      rcases hpass z hz with h | ⟨hz0, nm, hl1, hn1⟩
      · exact Or.inl h
      · obtain ⟨c6, hc6, hcl6⟩ := Cond.classLink_spec hown hl1 e.platform hpl
        obtain ⟨a8, b8, h1, h2, h3⟩ := hn1
        cases Option.some.inj (h1.symm.trans hcl)
        cases Option.some.inj (h2.symm.trans hc6)
        exact Or.inr ⟨hz0, _, hcl6, h3⟩) hx (Or.inr ⟨h0, c4, hcl5, hasg⟩)
  obtain ⟨t, a1, b1⟩ := kk (T.setVm vm') hT X'
  exact ⟨t, st.trans a1, b1⟩
end Rows
section Ends
variable {p : Program} {l : Launch} {e : Env} {R : Room} {s : State} {m : MethodId} {args : Array Value} {below : List Frame} {meth : Method} {c : Code} {H : Heap} {locs : List Loc} {cells slots : Nat} {Q : State → Prop}
variable {mc ms : Nat} {free : Addr → Prop} {A0 A1 : Nat → Prop} {H0 : Heap} {a : Array Value} {ls : Array Slot} {st0 rest : List Value}
variable {Qc : Array Value → State → Outcome → State → Prop} {XC : String → State → State → Prop}
/-- what a body that may throw owes at its end -/
def vx_MQ (below : List Frame) (Qc : Array Value → State → Outcome → State → Prop) (XC : String → State → State → Prop) (a : Array Value) (s : State) (mc ms : Nat) (free : Addr → Prop) : State → Prop := fun t =>
  ∃ o, t.status = .running ∧ Ended t below o ∧ vx_Q Qc XC mc ms free a s o t
theorem vx_ret {g : JFrame} {mc ms : Nat} (k : W p l e R s m args below meth c H locs cells slots (MQ below Qc args s mc ms free) g) : W p l e R s m args below meth c H locs cells slots (vx_MQ below Qc XC args s mc ms free) g := by
  intro T hT X
  obtain ⟨t, a1, o, b1, b2, b3, b4⟩ := k T hT X
  exact ⟨t, a1, o, b1, b2, Or.inl ⟨b3, b4⟩⟩
/-- not caught here: it goes on to the caller -/
theorem vx_widen {g : JFrame} {q : Addr} {k n : Nat} (h1 : cells ≤ k) (h2 : slots ≤ n) (kk : vx_W p l e R s m args below meth c H locs k n Q g q) : vx_W p l e R s m args below meth c H locs cells slots Q g q := fun T hT X => kk T hT (stand_widen X h1 h2)
theorem vx_out {pc : Nat} {E : String} {ce : Cell} {q : Addr} {mc ms : Nat} (hout : ∀ x ∈ c.exceptionTable.toList, covers x pc = false) (hlocks : meth.locks = false) (hcell : H[q]? = some ce) (hv : ce.vm = .none) (hcl : s.vm.findClass E = some ce.cls)
    (hx : ∀ t : State, t.heap = H → s.vm.Alike t.vm → XC E s t) (hf : ∀ z ∈ locs, free z.base) (hc : cells ≤ mc) (hs : slots ≤ ms) :
    vx_W p l e R s m args below meth c H locs cells slots (vx_MQ below Qc XC args s mc ms free) (F0 m pc ls rest) q := by
  intro T hT X
  obtain ⟨st1, hrun, hend, hW, hsm⟩ := X.leaveThrown q (g := F0 m pc ls rest) rfl rfl rfl hout hlocks
  have hcell9 : (T.setFrames (.throwing q :: below)).heap[q]? = some ce := by
    show T.heap[q]? = some ce
    rw [hT]; exact hcell
  exact ⟨_, st1, .threw q, hrun, hend, Or.inr ⟨q, rfl, E, ce, locs, hx _ hT hW.alike, hcell9, hv, hcl, hW, hsm.mono hc hs, hf⟩⟩
theorem vx_frame {U : State} {k n : Nat} (h : s.sameButNew ({ U with vm := s.vm } : State) locs k n) : s.heap.size ≤ U.heap.size ∧ ∀ q : Nat, q < s.heap.size → (∀ z ∈ locs, z.base ≠ q) → U.heap[q]? = s.heap[q]? := by
  obtain ⟨-, h2, -, -, -, h6⟩ := h
  refine ⟨h2, fun q hq hz => ?_⟩
  obtain ⟨c9, e1, e2, e3, e4⟩ := h6 q _ (Array.getElem?_eq_getElem hq)
  have hs : c9.slots = (s.heap[q]).slots := Array.ext_getElem? fun i => e4 i fun hm => hz _ hm rfl
  have h9 : c9 = s.heap[q] := by
    rw [hs] at e2
    exact e2
  have e5 : U.heap[q]? = some c9 := e1
  rw [e5, h9, Array.getElem?_eq_getElem hq]
/-- the words of a throw but the four that speak of the heap -/
def vx_no (w : Cond) : Bool := decide (w ≠ .isRef (.static Bundle.tN "UNASSIGNED_STACK" Bundle.steD)) && decide (w ≠ .isRef (.static Bundle.tN "SUPPRESSED_SENTINEL" Bundle.listD)) && decide (w ≠ .laysStatic Bundle.tN "UNASSIGNED_STACK" Bundle.steD) && decide (w ≠ .laysStatic Bundle.tN "SUPPRESSED_SENTINEL" Bundle.listD)
def vx_at0 (own : String) (ic : Nat) (X : String) (names : List String) : List Cond := (Bundle.ownAtoms0 own ic X names).filter vx_no
def vx_atS (own : String) (ic : Nat) (X : String) (names : List String) : List Cond := (Bundle.ownAtoms own ic X names).filter vx_no
/-- a word that the tables alone decide, or a good one -/
def vx_ot (w : Cond) : Bool := w.onTables || goodWord w
theorem vx_ot_at {args a' : Array Value} {s U : State} {w : Cond} (hW : s.WarmedH U.vm) (hvm : s.vm = U.vm) (hg : vx_ot w = true) (h : w.before args s = true) : w.before a' U = true := by
  simp only [vx_ot, Bool.or_eq_true] at hg
  rcases hg with hg | hg
  · exact va_tabs hg hvm h
  · exact word_at hW (good_of_word hg) h
/-- a list's words: the good ones out of the method's own list, the others by premises of their own -/
theorem vx_hat {args : Array Value} {s : State} {L B : List Cond} (h1 : ∀ w ∈ L.filter goodWord, w.before args s = true) (h2 : ∀ w ∈ L.filter (fun w => !goodWord w), w ∈ B) (h3 : ∀ w ∈ B, w.before args s = true) : ∀ w ∈ L, w.before args s = true := by
  intro w hw
  by_cases g : goodWord w = true
  · exact h1 w (List.mem_filter.mpr ⟨hw, g⟩)
  · refine h3 w (h2 w (List.mem_filter.mpr ⟨hw, ?_⟩))
    show (!goodWord w) = true
    cases hgw : goodWord w
    · rfl
    · exact absurd hgw g
theorem vx_c {args : Array Value} {s : State} {w : Cond} {B : List Cond} (h : w.before args s = true) (t : ∀ w ∈ B, w.before args s = true) : ∀ w' ∈ w :: B, w'.before args s = true := fun w' h' => (List.mem_cons.mp h').elim (fun e => by rw [e]; exact h) (t w')
theorem vx_n {args : Array Value} {s : State} : ∀ w ∈ ([] : List Cond), w.before args s = true := fun _ h => nomatch h
theorem vx_own {args : Array Value} {s : State} {L : List Cond} (h1 : ∀ w ∈ L.filter vx_no, w.before args s = true)
    (hU : (Cond.isRef (.static Bundle.tN "UNASSIGNED_STACK" Bundle.steD)).before args s = true) (hN : (Cond.isRef (.static Bundle.tN "SUPPRESSED_SENTINEL" Bundle.listD)).before args s = true)
    (lU : (Cond.laysStatic Bundle.tN "UNASSIGNED_STACK" Bundle.steD).before args s = true) (lN : (Cond.laysStatic Bundle.tN "SUPPRESSED_SENTINEL" Bundle.listD).before args s = true) : ∀ w ∈ L, w.before args s = true := by
  intro w hw
  by_cases e1 : w = .isRef (.static Bundle.tN "UNASSIGNED_STACK" Bundle.steD)
  · rw [e1]; exact hU
  · by_cases e2 : w = .isRef (.static Bundle.tN "SUPPRESSED_SENTINEL" Bundle.listD)
    · rw [e2]; exact hN
    · by_cases e3 : w = .laysStatic Bundle.tN "UNASSIGNED_STACK" Bundle.steD
      · rw [e3]; exact lU
      · by_cases e4 : w = .laysStatic Bundle.tN "SUPPRESSED_SENTINEL" Bundle.listD
        · rw [e4]; exact lN
        · exact h1 w (List.mem_filter.mpr ⟨hw, by unfold vx_no; rw [decide_eq_true e1, decide_eq_true e2, decide_eq_true e3, decide_eq_true e4]; rfl⟩)
/-- where a static field lies, its class's statics cell in H -/
def vx_L (C n d : String) (A : Nat → Prop) (U : State) (H : Heap) : Prop := ∃ (c : ClassId) (k : Class) (i : Nat) (f : Field) (a : Nat) (cell : Cell), U.vm.findClass C = some c ∧ U.fieldFound? C n d = some (c, k, i, f) ∧ f.isStatic = true ∧ k.statics = some a ∧ H[a]? = some cell ∧ cell.vm.isStatics = true ∧ cell.cls = c ∧ f.slot < cell.slots.size ∧ k.staticTypes[f.slot]? = some f.type ∧ ¬ A a
theorem vx_L.moved {C n d : String} {A : Nat → Prop} {u U : State} {H : Heap} (hvm : u.vm.Alike U.vm) (h : vx_L C n d A u H) : vx_L C n d A U H := by
  obtain ⟨c, k, i, f, a, cell, h1, h2, h3, h4, h5, h6, h7, h8, h9, h10⟩ := h
  obtain ⟨k', hi', he⟩ := State.fieldFound?_setVm hvm h2
  exact ⟨c, k', i, f, a, cell, by rw [hvm.findClass]; exact h1, hi', h3, by rw [he]; exact h4, h5, h6, h7, h8, by rw [he]; exact h9, h10⟩
theorem vx_L.kept {C n d : String} {A : Nat → Prop} {U : State} {H H1 : Heap} (h : vx_L C n d A U H) (hq : ∀ a : Nat, a < H.size → ¬ A a → H1[a]? = H[a]?) : vx_L C n d A U H1 := by
  obtain ⟨c, k, i, f, a, cell, h1, h2, h3, h4, h5, h6, h7, h8, h9, h10⟩ := h
  exact ⟨c, k, i, f, a, cell, h1, h2, h3, h4, by rw [hq a (Array.getElem?_eq_some_iff.mp h5).1 h10]; exact h5, h6, h7, h8, h9, h10⟩
theorem vx_L.narrow {C n d : String} {A B : Nat → Prop} {U : State} {H : Heap} (h : vx_L C n d A U H) (hAB : ∀ q, B q → A q) : vx_L C n d B U H := by
  obtain ⟨c, k, i, f, a, cell, h1, h2, h3, h4, h5, h6, h7, h8, h9, h10⟩ := h
  exact ⟨c, k, i, f, a, cell, h1, h2, h3, h4, h5, h6, h7, h8, h9, fun z => h10 (hAB _ z)⟩
theorem vx_L.word {C n d : String} {A : Nat → Prop} {s : State} {args : Array Value} (h : vx_L C n d A s s.heap) : (Cond.laysStatic C n d).before args s = true := by
  obtain ⟨c, k, i, f, a, cell, h1, h2, h3, h4, h5, h6, h7, h8, h9, -⟩ := h
  show (Cond.laysStatic C n d).holds args s none s [] = true
  exact Cond.laysStatic_of h1 h2 h3 h4 h5 h6 h7 h8 h9
/-- .. and what it holds: null or some reference -/
def vx_Zq (C n d : String) (A : Nat → Prop) (U : State) (H : Heap) : Prop := va_Zq C n d A U H ∧ vx_L C n d A U H
theorem vx_Zq.moved {C n d : String} {A : Nat → Prop} {u U : State} {H : Heap} (hvm : u.vm.Alike U.vm) (h : vx_Zq C n d A u H) : vx_Zq C n d A U H := ⟨va_Zq.moved hvm h.1, vx_L.moved hvm h.2⟩
theorem vx_Zq.kept {C n d : String} {A : Nat → Prop} {U : State} {H H1 : Heap} (h : vx_Zq C n d A U H) (hq : ∀ a : Nat, a < H.size → ¬ A a → H1[a]? = H[a]?) : vx_Zq C n d A U H1 := ⟨va_Zq.kept h.1 hq, vx_L.kept h.2 hq⟩
theorem vx_Zq.narrow {C n d : String} {A B : Nat → Prop} {U : State} {H : Heap} (h : vx_Zq C n d A U H) (hAB : ∀ q, B q → A q) : vx_Zq C n d B U H := ⟨va_Zq.narrow h.1 hAB, vx_L.narrow h.2 hAB⟩
theorem vx_Zqof {args : Array Value} {s : State} {C n d : String} {A : Nat → Prop} (hl : (Cond.laysStatic C n d).before args s = true) (hini : (Cond.initialized C).before args s = true) (h : (Cond.isRef (.static C n d)).before args s = true) (hA : ∀ a : Nat, a < s.heap.size → ¬ A a) : vx_Zq C n d A s s.heap := by
  refine ⟨va_Zqof hl hini h hA, ?_⟩
  obtain ⟨c, k, i, f, a, cell, h1, h2, h3, h4, h5, h6, h7, h8, h9⟩ := Cond.laysStatic_spec hl
  exact ⟨c, k, i, f, a, cell, h1, h2, h3, h4, h5, h6, h7, h8, h9, hA a (Array.getElem?_eq_some_iff.mp h5).1⟩
theorem vx_isRef {C n d : String} {v : Value} {A : Nat → Prop} {s : State} {args : Array Value} (h : va_Z C n d v A s s.heap) (hv : v.isRef = true) : (Cond.isRef (.static C n d)).before args s = true := by
  obtain ⟨cf, kf, fi, f, a, cell, h1, h2, h3, h4, h5, h6, h7, -⟩ := h
  have he : (Term.static C n d).eval args s none [] s = some v := by
    simp [Term.eval, State.fieldNamed?, h1, h2, h4, h5, h6, h7]
  simp only [Cond.before, Cond.holds, Cond.value, he]
  cases v <;> simp_all [Value.isRef]
theorem vx_isRefq {C n d : String} {A : Nat → Prop} {s : State} {args : Array Value} (h : va_Zq C n d A s s.heap) : (Cond.isRef (.static C n d)).before args s = true := by
  rcases h with h | ⟨t, h⟩
  · exact vx_isRef h rfl
  · exact vx_isRef h rfl
/-- the same frame, seen from here: as if the method were called anew in this heap -/
theorem vx_rebase {T : State} (X : Stand p l e R s m args below meth c T locs cells slots) {R' : Room} (hf : R'.frames ≤ R.frames) (hl : R'.locals ≤ R.locals) (hc : cells + R'.cells ≤ R.cells) (hs : slots + R'.slots ≤ R.slots) :
    Stand p l e R' ((T.setVm s.vm).setFrames (.invoking m args :: below)) m args below meth c T [] 0 0 := by
  have htop : (T.setVm s.vm).topJava?.isSome := X.here.top
  have hF : ((T.setVm s.vm).setFrames (.invoking m args :: below)).frames = .invoking m args :: below := State.frames_setFrames _ (State.cur_lt_of_top htop)
  obtain ⟨g₀, hg0⟩ := Option.isSome_iff_exists.mp htop
  obtain ⟨r, hr⟩ := State.topJava?_eq_some.mp hg0
  have hl9 : e.platform.stackLimits (T.setVm s.vm).me = e.platform.stackLimits s.me := X.limits
  have hb9 : (T.setVm s.vm).me.stackBytes = s.me.stackBytes := X.bytes
  refine ⟨X.admits, X.cas, X.clock, hF, ?_, X.hears, X.method, X.code, X.here, X.tail, X.warmed, ?_, ?_, ?_⟩
  · have h := X.room
    have hU : ((T.setVm s.vm).setFrames (.invoking m args :: below)).localsInUse = s.localsInUse := by
      rw [State.localsInUse_invoking hF (meth := meth) (c := c) X.method X.code, State.localsInUse_invoking X.frames X.method X.code]
    simp only [State.hasRoom, Bool.and_eq_true, decide_eq_true_eq] at h ⊢
    obtain ⟨⟨⟨⟨h1, h2, h3, h4, h5, h6⟩, h7⟩, h8⟩, h9⟩ := h
    rw [X.frames, List.length_cons] at h2 h3
    have q1 := X.heapSize
    have q2 := X.used
    simp only [hF, hU, List.length_cons, State.stackLimits_setFrames, State.stackBytes_setFrames, hl9, hb9]
    refine ⟨⟨⟨⟨by omega, by omega, by omega, by omega, by omega, h6⟩, ?_⟩, ?_⟩, X.book⟩
    · show T.heap.size + R'.cells ≤ e.platform.maxCells
      omega
    · show T.slotsUsed + R'.slots ≤ e.platform.maxSlots
      omega
  · rw [State.stackLimits_setFrames]; rfl
  · rw [State.stackBytes_setFrames]; rfl
  · refine ⟨?_, Nat.le_refl _, Nat.le_refl _, ?_, ?_, fun a c9 h9 => ⟨c9, h9, rfl, rfl, fun _ _ => rfl⟩⟩
    · obtain ⟨t, ht, -⟩ := State.frames_cons hr
      show T.setVm s.vm = { ((T.setVm s.vm).setFrames (.invoking m args :: below)).setFrames (T.setVm s.vm).frames with heap := T.heap, slotsUsed := T.slotsUsed }
      rw [State.setFrames_setFrames, State.setFrames_self ht]
      rfl
    · show T.slotsUsed = T.slotsUsed + ((T.heap.toList.drop T.heap.size).map (·.slots.size)).sum
      rw [List.drop_eq_nil_of_le (Nat.le_of_eq Array.length_toList)]
      rfl
    · show ((T.heap.toList.drop T.heap.size).map (·.slots.size)).sum ≤ 0
      rw [List.drop_eq_nil_of_le (Nat.le_of_eq Array.length_toList)]
      exact Nat.le_refl _
/-- 'throw new E()': new; dup; invokespecial; athrow -/
theorem vx_throw0 {cc : ByteArray} {pc : Nat} (hexec : p.tables.exec = Jvm.exec) (hb : c.code = cc) (hl : l.stackTraces = false) {own cls : String} {names : List String} {ik ic mc ms : Nat} {A : Nat → Prop}
    (hown : s.vm.findClass own = some m.cls) (hcls : Bundle.fit cls = true) (hnames : ∀ n ∈ names, Bundle.fit n = true)
    (hk : (Cond.classLink own ik cls).before args s = true) (hini : (Cond.initialized cls).before args s = true) (hat : ∀ w ∈ vx_at0 own ic cls names, w.before args s = true)
    (hgood : ∀ w ∈ Cond.classLink own ik cls :: Cond.initialized cls :: vx_at0 own ic cls names, vx_ot w = true)
    (hU : vx_Zq Bundle.tN "UNASSIGNED_STACK" Bundle.steD A s s.heap) (hN : vx_Zq Bundle.tN "SUPPRESSED_SENTINEL" Bundle.listD A s s.heap) (hS : va_S A s.heap H locs) (hsize : ls.size = c.maxLocals)
    (d0 : decode cc pc = .ok (.new ik, 3)) (d3 : decode cc (pc + 3) = .ok (.dup, 1)) (d4 : decode cc (pc + 4) = .ok (.invokespecial ic, 3)) (d7 : decode cc (pc + 7) = .ok (.athrow, 1))
    (hout : ∀ x ∈ c.exceptionTable.toList, covers x (pc + 7) = false)
    (hRframes : names.length + 3 < R.frames) (hRlocals : (rest.map fun v => v.category).sum + (13 * (names.length + 1) + 42) ≤ R.locals) (hRcells : cells + 1 ≤ R.cells) (hRslots : slots + 6 ≤ R.slots) (hlocks : meth.locks = false)
    (hx : ∀ t : State, s.vm.Alike t.vm → H.size ≤ t.heap.size → (∀ q : Nat, q < H.size → t.heap[q]? = H[q]?) → XC cls s t)
    (hf : ∀ z ∈ locs, free z.base) (hc : cells + 1 ≤ mc) (hs : slots + 6 ≤ ms) :
    W p l e R s m args below meth c H locs cells slots (vx_MQ below Qc XC args s mc ms free) (F0 m pc ls rest) := by
  intro T hT X
  have htr : e.platform.stackTraces = false := (show e.platform.stackTraces = l.stackTraces by rw [X.admits.platform]).trans hl
  have Y := vx_rebase X (R' := { frames := R.frames, locals := R.locals, cells := 1, slots := 6 }) (Nat.le_refl _) (Nat.le_refl _) hRcells hRslots
  obtain ⟨s', hA⟩ : ∃ z, z = (T.setVm s.vm).setFrames (.invoking m args :: below) := ⟨_, rfl⟩
  rw [← hA] at Y
  have hvm : s'.vm = s.vm := by rw [hA]; rfl
  have hhp : s'.heap = H := by rw [hA]; exact hT
  have hW0 : s.WarmedH s'.vm := by rw [hvm]; exact State.WarmedH.refl s
  have hat' : ∀ w ∈ vx_at0 own ic cls names, w.before args s' = true := fun w hw => vx_ot_at hW0 hvm.symm (hgood w (List.mem_cons_of_mem _ (List.mem_cons_of_mem _ hw))) (hat w hw)
  have hk' : (Cond.classLink own ik cls).before args s' = true := vx_ot_at hW0 hvm.symm (hgood _ List.mem_cons_self) hk
  have hini' : (Cond.initialized cls).before args s' = true := vx_ot_at hW0 hvm.symm (hgood _ (List.mem_cons_of_mem _ List.mem_cons_self)) hini
  have hU' : vx_Zq Bundle.tN "UNASSIGNED_STACK" Bundle.steD A s' s'.heap := by rw [hhp]; exact vx_Zq.moved hW0.alike (hU.kept hS.2.1)
  have hN' : vx_Zq Bundle.tN "SUPPRESSED_SENTINEL" Bundle.listD A s' s'.heap := by rw [hhp]; exact vx_Zq.moved hW0.alike (hN.kept hS.2.1)
  have h : ∀ w ∈ Bundle.ownAtoms0 own ic cls names, w.before args s' = true := vx_own hat' (vx_isRefq hU'.1) (vx_isRefq hN'.1) hU'.2.word hN'.2.word
  have hown' : s'.vm.findClass own = some m.cls := by rw [hvm]; exact hown
  have hins : (Cond.instantiable cls 6).before args s' = true := h _ (by simp [Bundle.ownAtoms0])
  obtain ⟨vm₁, cX, kX, hfX, hkX, -, -, X₁, st1⟩ := Y.newCold hexec (own := own) (C := cls) (index := ik) (n := 6) hown' hk' hins hini'
    (g := F0 m pc ls rest) rfl (by rw [hb]; exact d0) (Nat.le_refl _) (Nat.le_refl _)
  generalize hT1 : (T.setVm vm₁).pushCell { cls := cX, slots := kX.instanceTypes.map defaultValue, vm := .none } = T1 at X₁ st1
  have hcat : (Value.ref T.heap.size).category = 1 := rfl
  have hcellA : T1.heap[T.heap.size]? = some (freshCell cX kX) := by rw [← hT1]; exact State.heap_pushCell_size _ _
  have d3' : decode c.code (pc + 3) = .ok (.dup, 1) := by rw [hb]; exact d3
  obtain ⟨U, hsteps, hrun, hend, hW, hsame, ce, hce, hO⟩ := X₁.ctorThrow0 hexec htr (own := own) (cls := cls) (names := names) (ic := ic) hown' hcls hnames h (fun x hx => nomatch hx) hfX hkX hcellA (by rw [hhp, hT]; exact Nat.le_refl _)
    (g := { method := m, pc := pc + 4, locals := ls, stack := .ref T.heap.size :: .ref T.heap.size :: rest, locked := none }) rfl hsize rfl rfl (rest := rest) rfl
    (by rw [hb]; exact d4) (by rw [hb]; exact d7) hout hRframes (by simp only [List.map_cons, List.sum_cons, hcat]; omega) hlocks
  obtain ⟨f1, f2⟩ := vx_frame hsame
  rw [hhp] at f1 f2
  have hWs : s.WarmedH U.vm := State.WarmedH.trans hW0 hW
  have hcl : s.vm.findClass cls = some ce.cls := by
    have h9 := hO.cls
    rw [hvm] at h9
    exact h9
  have hall : s.sameButNew ({ U with vm := s.vm } : State) locs mc ms := by
    subst hA
    obtain ⟨e1, e2⟩ := hsame
    rw [State.setFrames_setFrames] at e1
    have h2 : (T.setVm s.vm).sameButNew ({ U with vm := s.vm } : State) [] (0 + 1) (0 + 6) := ⟨e1, e2⟩
    have h3 := X.same.trans h2
    rw [List.append_nil] at h3
    exact h3.mono hc hs
  refine ⟨U, ?_, .threw T.heap.size, hrun, hend, Or.inr ⟨T.heap.size, rfl, cls, ce, locs, hx U hWs.alike f1 (fun q hq => f2 q hq (fun z hz => nomatch hz)), hce, hO.vm, hcl, hWs, hall, hf⟩⟩
  refine st1 _ ?_
  show Steps p.tables e below (T1.setTop { method := m, pc := pc + 3, locals := ls, stack := .ref T.heap.size :: rest, locked := none }) _
  jvm_step X₁.here [X₁.here.top, hexec, d3', Value.category]
  exact hsteps
/-- 'throw new E("text")': new; dup; ldc; invokespecial; athrow -/
theorem vx_throwS {cc : ByteArray} {pc : Nat} (hexec : p.tables.exec = Jvm.exec) (hb : c.code = cc) (hl : l.stackTraces = false) {own cls text : String} {names : List String} {ik is ic mc ms sa : Nat} {A : Nat → Prop}
    (hown : s.vm.findClass own = some m.cls) (hcls : Bundle.fit cls = true) (hnames : ∀ n ∈ names, Bundle.fit n = true)
    (hk : (Cond.classLink own ik cls).before args s = true) (hini : (Cond.initialized cls).before args s = true) (hstr : vk_R own is text sa s) (hat : ∀ w ∈ vx_atS own ic cls names, w.before args s = true)
    (hgood : ∀ w ∈ Cond.classLink own ik cls :: Cond.initialized cls :: vx_atS own ic cls names, vx_ot w = true)
    (hU : vx_Zq Bundle.tN "UNASSIGNED_STACK" Bundle.steD A s s.heap) (hN : vx_Zq Bundle.tN "SUPPRESSED_SENTINEL" Bundle.listD A s s.heap) (hS : va_S A s.heap H locs) (hsize : ls.size = c.maxLocals)
    (d0 : decode cc pc = .ok (.new ik, 3)) (d3 : decode cc (pc + 3) = .ok (.dup, 1)) (d4 : decode cc (pc + 4) = .ok (.ldc is, 2)) (d6 : decode cc (pc + 6) = .ok (.invokespecial ic, 3)) (d9 : decode cc (pc + 9) = .ok (.athrow, 1))
    (hout : ∀ x ∈ c.exceptionTable.toList, covers x (pc + 9) = false)
    (hRframes : names.length + 3 < R.frames) (hRlocals : (rest.map fun v => v.category).sum + (13 * (names.length + 1) + 43) ≤ R.locals) (hRcells : cells + 1 ≤ R.cells) (hRslots : slots + 6 ≤ R.slots) (hlocks : meth.locks = false)
    (hx : ∀ t : State, s.vm.Alike t.vm → H.size ≤ t.heap.size → (∀ q : Nat, q < H.size → t.heap[q]? = H[q]?) → XC cls s t)
    (hf : ∀ z ∈ locs, free z.base) (hc : cells + 1 ≤ mc) (hs : slots + 6 ≤ ms) :
    W p l e R s m args below meth c H locs cells slots (vx_MQ below Qc XC args s mc ms free) (F0 m pc ls rest) := by
  intro T hT X
  have htr : e.platform.stackTraces = false := (show e.platform.stackTraces = l.stackTraces by rw [X.admits.platform]).trans hl
  have Y := vx_rebase X (R' := { frames := R.frames, locals := R.locals, cells := 1, slots := 6 }) (Nat.le_refl _) (Nat.le_refl _) hRcells hRslots
  obtain ⟨s', hA⟩ : ∃ z, z = (T.setVm s.vm).setFrames (.invoking m args :: below) := ⟨_, rfl⟩
  rw [← hA] at Y
  have hvm : s'.vm = s.vm := by rw [hA]; rfl
  have hhp : s'.heap = H := by rw [hA]; exact hT
  have hW0 : s.WarmedH s'.vm := by rw [hvm]; exact State.WarmedH.refl s
  have hat' : ∀ w ∈ vx_atS own ic cls names, w.before args s' = true := fun w hw => vx_ot_at hW0 hvm.symm (hgood w (List.mem_cons_of_mem _ (List.mem_cons_of_mem _ hw))) (hat w hw)
  have hk' : (Cond.classLink own ik cls).before args s' = true := vx_ot_at hW0 hvm.symm (hgood _ List.mem_cons_self) hk
  have hini' : (Cond.initialized cls).before args s' = true := vx_ot_at hW0 hvm.symm (hgood _ (List.mem_cons_of_mem _ List.mem_cons_self)) hini
  have hU' : vx_Zq Bundle.tN "UNASSIGNED_STACK" Bundle.steD A s' s'.heap := by rw [hhp]; exact vx_Zq.moved hW0.alike (hU.kept hS.2.1)
  have hN' : vx_Zq Bundle.tN "SUPPRESSED_SENTINEL" Bundle.listD A s' s'.heap := by rw [hhp]; exact vx_Zq.moved hW0.alike (hN.kept hS.2.1)
  have h : ∀ w ∈ Bundle.ownAtoms own ic cls names, w.before args s' = true := vx_own hat' (vx_isRefq hU'.1) (vx_isRefq hN'.1) hU'.2.word hN'.2.word
  have hown' : s'.vm.findClass own = some m.cls := by rw [hvm]; exact hown
  have hins : (Cond.instantiable cls 6).before args s' = true := h _ (by simp [Bundle.ownAtoms])
  obtain ⟨vm₁, cX, kX, hfX, hkX, -, -, X₁, st1⟩ := Y.newCold hexec (own := own) (C := cls) (index := ik) (n := 6) hown' hk' hins hini'
    (g := F0 m pc ls rest) rfl (by rw [hb]; exact d0) (Nat.le_refl _) (Nat.le_refl _)
  generalize hT1 : (T.setVm vm₁).pushCell { cls := cX, slots := kX.instanceTypes.map defaultValue, vm := .none } = T1 at X₁ st1
  have hcat : (Value.ref T.heap.size).category = 1 := rfl
  have hcellA : T1.heap[T.heap.size]? = some (freshCell cX kX) := by rw [← hT1]; exact State.heap_pushCell_size _ _
  have d3' : decode c.code (pc + 3) = .ok (.dup, 1) := by rw [hb]; exact d3
  have d4' : decode c.code (pc + 4) = .ok (.ldc is, 2) := by rw [hb]; exact d4
  have hstr' : vk_R own is text sa s' := vk_R.warm hW0 hstr
  obtain ⟨U, hsteps, hrun, hend, hW, hsame, ce, hce, hO⟩ := X₁.ctorThrowS hexec htr (own := own) (cls := cls) (names := names) (ic := ic) hown' hcls hnames h (fun x hx => nomatch hx) hfX hkX hcellA (by rw [hhp, hT]; exact Nat.le_refl _) (msg := .ref sa) rfl
    (g := { method := m, pc := pc + 6, locals := ls, stack := .ref sa :: .ref T.heap.size :: .ref T.heap.size :: rest, locked := none }) rfl hsize rfl rfl (rest := rest) rfl
    (by rw [hb]; exact d6) (by rw [hb]; exact d9) hout hRframes (by simp only [List.map_cons, List.sum_cons, hcat]; omega) hlocks
  obtain ⟨f1, f2⟩ := vx_frame hsame
  rw [hhp] at f1 f2
  have hWs : s.WarmedH U.vm := State.WarmedH.trans hW0 hW
  have hcl : s.vm.findClass cls = some ce.cls := by
    have h9 := hO.cls
    rw [hvm] at h9
    exact h9
  have hall : s.sameButNew ({ U with vm := s.vm } : State) locs mc ms := by
    subst hA
    obtain ⟨e1, e2⟩ := hsame
    rw [State.setFrames_setFrames] at e1
    have h2 : (T.setVm s.vm).sameButNew ({ U with vm := s.vm } : State) [] (0 + 1) (0 + 6) := ⟨e1, e2⟩
    have h3 := X.same.trans h2
    rw [List.append_nil] at h3
    exact h3.mono hc hs
  refine ⟨U, ?_, .threw T.heap.size, hrun, hend, Or.inr ⟨T.heap.size, rfl, cls, ce, locs, hx U hWs.alike f1 (fun q hq => f2 q hq (fun z hz => nomatch hz)), hce, hO.vm, hcl, hWs, hall, hf⟩⟩
  refine st1 _ ?_
  show Steps p.tables e below (T1.setTop { method := m, pc := pc + 3, locals := ls, stack := .ref T.heap.size :: rest, locked := none }) _
  jvm_step X₁.here [X₁.here.top, hexec, d3', Value.category]
  exact X₁.ldcString hexec (own := own) (text := text) (index := is) (a := sa) hown' hstr'.1 hstr'.2
    (g := { method := m, pc := pc + 4, locals := ls, stack := .ref T.heap.size :: .ref T.heap.size :: rest, locked := none }) rfl d4' _ hsteps
/-- 'throw new E("text")', the text by a wide index -/
theorem vx_throwSW {cc : ByteArray} {pc : Nat} (hexec : p.tables.exec = Jvm.exec) (hb : c.code = cc) (hl : l.stackTraces = false) {own cls text : String} {names : List String} {ik is ic mc ms sa : Nat} {A : Nat → Prop}
    (hown : s.vm.findClass own = some m.cls) (hcls : Bundle.fit cls = true) (hnames : ∀ n ∈ names, Bundle.fit n = true)
    (hk : (Cond.classLink own ik cls).before args s = true) (hini : (Cond.initialized cls).before args s = true) (hstr : vk_R own is text sa s) (hat : ∀ w ∈ vx_atS own ic cls names, w.before args s = true)
    (hgood : ∀ w ∈ Cond.classLink own ik cls :: Cond.initialized cls :: vx_atS own ic cls names, vx_ot w = true)
    (hU : vx_Zq Bundle.tN "UNASSIGNED_STACK" Bundle.steD A s s.heap) (hN : vx_Zq Bundle.tN "SUPPRESSED_SENTINEL" Bundle.listD A s s.heap) (hS : va_S A s.heap H locs) (hsize : ls.size = c.maxLocals)
    (d0 : decode cc pc = .ok (.new ik, 3)) (d3 : decode cc (pc + 3) = .ok (.dup, 1)) (d4 : decode cc (pc + 4) = .ok (.ldc_w is, 3)) (d7 : decode cc (pc + 7) = .ok (.invokespecial ic, 3)) (d10 : decode cc (pc + 10) = .ok (.athrow, 1))
    (hout : ∀ x ∈ c.exceptionTable.toList, covers x (pc + 10) = false)
    (hRframes : names.length + 3 < R.frames) (hRlocals : (rest.map fun v => v.category).sum + (13 * (names.length + 1) + 43) ≤ R.locals) (hRcells : cells + 1 ≤ R.cells) (hRslots : slots + 6 ≤ R.slots) (hlocks : meth.locks = false)
    (hx : ∀ t : State, s.vm.Alike t.vm → H.size ≤ t.heap.size → (∀ q : Nat, q < H.size → t.heap[q]? = H[q]?) → XC cls s t)
    (hf : ∀ z ∈ locs, free z.base) (hc : cells + 1 ≤ mc) (hs : slots + 6 ≤ ms) :
    W p l e R s m args below meth c H locs cells slots (vx_MQ below Qc XC args s mc ms free) (F0 m pc ls rest) := by
  intro T hT X
  have htr : e.platform.stackTraces = false := (show e.platform.stackTraces = l.stackTraces by rw [X.admits.platform]).trans hl
  have Y := vx_rebase X (R' := { frames := R.frames, locals := R.locals, cells := 1, slots := 6 }) (Nat.le_refl _) (Nat.le_refl _) hRcells hRslots
  obtain ⟨s', hA⟩ : ∃ z, z = (T.setVm s.vm).setFrames (.invoking m args :: below) := ⟨_, rfl⟩
  rw [← hA] at Y
  have hvm : s'.vm = s.vm := by rw [hA]; rfl
  have hhp : s'.heap = H := by rw [hA]; exact hT
  have hW0 : s.WarmedH s'.vm := by rw [hvm]; exact State.WarmedH.refl s
  have hat' : ∀ w ∈ vx_atS own ic cls names, w.before args s' = true := fun w hw => vx_ot_at hW0 hvm.symm (hgood w (List.mem_cons_of_mem _ (List.mem_cons_of_mem _ hw))) (hat w hw)
  have hk' : (Cond.classLink own ik cls).before args s' = true := vx_ot_at hW0 hvm.symm (hgood _ List.mem_cons_self) hk
  have hini' : (Cond.initialized cls).before args s' = true := vx_ot_at hW0 hvm.symm (hgood _ (List.mem_cons_of_mem _ List.mem_cons_self)) hini
  have hU' : vx_Zq Bundle.tN "UNASSIGNED_STACK" Bundle.steD A s' s'.heap := by rw [hhp]; exact vx_Zq.moved hW0.alike (hU.kept hS.2.1)
  have hN' : vx_Zq Bundle.tN "SUPPRESSED_SENTINEL" Bundle.listD A s' s'.heap := by rw [hhp]; exact vx_Zq.moved hW0.alike (hN.kept hS.2.1)
  have h : ∀ w ∈ Bundle.ownAtoms own ic cls names, w.before args s' = true := vx_own hat' (vx_isRefq hU'.1) (vx_isRefq hN'.1) hU'.2.word hN'.2.word
  have hown' : s'.vm.findClass own = some m.cls := by rw [hvm]; exact hown
  have hins : (Cond.instantiable cls 6).before args s' = true := h _ (by simp [Bundle.ownAtoms])
  obtain ⟨vm₁, cX, kX, hfX, hkX, -, -, X₁, st1⟩ := Y.newCold hexec (own := own) (C := cls) (index := ik) (n := 6) hown' hk' hins hini'
    (g := F0 m pc ls rest) rfl (by rw [hb]; exact d0) (Nat.le_refl _) (Nat.le_refl _)
  generalize hT1 : (T.setVm vm₁).pushCell { cls := cX, slots := kX.instanceTypes.map defaultValue, vm := .none } = T1 at X₁ st1
  have hcat : (Value.ref T.heap.size).category = 1 := rfl
  have hcellA : T1.heap[T.heap.size]? = some (freshCell cX kX) := by rw [← hT1]; exact State.heap_pushCell_size _ _
  have d3' : decode c.code (pc + 3) = .ok (.dup, 1) := by rw [hb]; exact d3
  have d4' : decode c.code (pc + 4) = .ok (.ldc_w is, 3) := by rw [hb]; exact d4
  have hstr' : vk_R own is text sa s' := vk_R.warm hW0 hstr
  obtain ⟨U, hsteps, hrun, hend, hW, hsame, ce, hce, hO⟩ := X₁.ctorThrowS hexec htr (own := own) (cls := cls) (names := names) (ic := ic) hown' hcls hnames h (fun x hx => nomatch hx) hfX hkX hcellA (by rw [hhp, hT]; exact Nat.le_refl _) (msg := .ref sa) rfl
    (g := { method := m, pc := pc + 7, locals := ls, stack := .ref sa :: .ref T.heap.size :: .ref T.heap.size :: rest, locked := none }) rfl hsize rfl rfl (rest := rest) rfl
    (by rw [hb]; exact d7) (by rw [hb]; exact d10) hout hRframes (by simp only [List.map_cons, List.sum_cons, hcat]; omega) hlocks
  obtain ⟨f1, f2⟩ := vx_frame hsame
  rw [hhp] at f1 f2
  have hWs : s.WarmedH U.vm := State.WarmedH.trans hW0 hW
  have hcl : s.vm.findClass cls = some ce.cls := by
    have h9 := hO.cls
    rw [hvm] at h9
    exact h9
  have hall : s.sameButNew ({ U with vm := s.vm } : State) locs mc ms := by
    subst hA
    obtain ⟨e1, e2⟩ := hsame
    rw [State.setFrames_setFrames] at e1
    have h2 : (T.setVm s.vm).sameButNew ({ U with vm := s.vm } : State) [] (0 + 1) (0 + 6) := ⟨e1, e2⟩
    have h3 := X.same.trans h2
    rw [List.append_nil] at h3
    exact h3.mono hc hs
  refine ⟨U, ?_, .threw T.heap.size, hrun, hend, Or.inr ⟨T.heap.size, rfl, cls, ce, locs, hx U hWs.alike f1 (fun q hq => f2 q hq (fun z hz => nomatch hz)), hce, hO.vm, hcl, hWs, hall, hf⟩⟩
  refine st1 _ ?_
  show Steps p.tables e below (T1.setTop { method := m, pc := pc + 3, locals := ls, stack := .ref T.heap.size :: rest, locked := none }) _
  jvm_step X₁.here [X₁.here.top, hexec, d3', Value.category]
  exact X₁.ldcStringW hexec (own := own) (text := text) (index := is) (a := sa) hown' hstr'.1 hstr'.2
    (g := { method := m, pc := pc + 4, locals := ls, stack := .ref T.heap.size :: .ref T.heap.size :: rest, locked := none }) rfl d4' _ hsteps
end Ends
section Bodies
variable {l : Launch}
theorem vx_ofW {y : MethodName} {ws ws' : List Cond} {rm : Room} {Pc : Array Value → State → Prop} {Qc : Array Value → State → Outcome → State → Prop} {XC : String → State → State → Prop} {mc ms : Nat} {free : Addr → Prop} {cc : ByteArray} {maxL : Nat} {ret : Option FieldType}
    (hy : plainName y.cls = true) (hw : ws = Cond.code y cc maxL ret :: ws')
    (body : ∀ p e s m args below meth c s₁, BodyLoose p l y (headSpec ws rm) cc maxL ret e s m args below meth c s₁ → c.maxLocals = maxL → (∀ x ∈ c.exceptionTable.toList, False) → Pc args s →
      W p l e (headSpec ws rm).room s m args below meth c s.heap [] 0 0 (vx_MQ below Qc XC args s mc ms free) (entryFrame m args maxL)) : vx_Met l y ws rm Pc Qc XC mc ms free := by
  refine MetFree.of_bodyS (code := cc) (maxLocals := maxL) (ret := ret) hy ?_ ?_
  · intro args s m h hn
    obtain ⟨meth, c, h1, h2, h3, h4, h5, h6, -, -⟩ := Cond.code_spec hn (atoms_spec (ws := ws) h _ (by rw [hw]; exact List.mem_cons_self))
    exact ⟨meth, c, h1, h2, h3, h4, h5, h6⟩
  · intro p e s m args below meth c s₁ B hml hP _
    have hh0 : s₁.heap = s.heap := by rw [B.state]; rfl
    have ht : ∀ x ∈ c.exceptionTable.toList, False := by
      obtain ⟨meth9, c9, h1, h2, -, -, -, -, h7, -⟩ := Cond.code_spec B.named (atoms_spec (ws := ws) B.pre _ (by rw [hw]; exact List.mem_cons_self))
      cases Option.some.inj (h1.symm.trans B.method)
      cases Option.some.inj (h2.symm.trans (Stand.of_body B).code)
      intro x hx
      rw [Array.isEmpty_iff.mp h7] at hx
      cases hx
    obtain ⟨t, a1, o, b1, b2, b3⟩ := body p e s m args below meth c s₁ B hml ht hP s₁ hh0 (Stand.of_body B)
    exact ⟨t, o, a1, b1, b2, b3⟩
/-- the table of a body with handlers -/
theorem vx_table {p : Program} {x y : MethodName} {S : Spec} {cc bytes : ByteArray} {maxL maxL' : Nat} {ret ret' : Option FieldType} {e : Env} {s s₁ : State} {m : MethodId} {args : Array Value} {below : List Frame} {meth : Method} {c : Code} {hh : List (Nat × Nat × Nat × Nat)}
    (B : BodyLoose p l y S cc maxL ret e s m args below meth c s₁) (h : (Cond.codeWith y bytes maxL' ret' hh).before args s = true) : c.exceptionTable.toList = tableOf hh := by
  obtain ⟨m9, meth9, c9, hn9, h1, h2, -, -, h6, -⟩ := Cond.codeWith_spec h
  cases Option.some.inj (hn9.symm.trans B.named)
  cases Option.some.inj (h1.symm.trans B.method)
  cases Option.some.inj (h2.symm.trans (Stand.of_body B).code)
  rw [← h6, table_eq]
end Bodies
end VXA
/-! ===== END ===== -/
/-! ===== BEGIN a static call of a method with an exception table ===== -/
section VXS
variable {p : Program} {l : Launch} {e : Env} {R : Room} {s : State} {m : MethodId} {args : Array Value} {below : List Frame} {meth : Method} {c : Code} {T : State} {H : Heap} {locs : List Loc} {cells slots : Nat}
abbrev vx_CSW (R : Room) (s : State) (args : Array Value) (own : String) (index : Nat) (y : MethodName) (bytes : ByteArray) (maxL : Nat) (ret : Option FieldType) (hh : List (Nat × Nat × Nat × Nat)) (ws : List Cond) (rm : Room) (mc ms n : Nat) : Prop :=
  (rm.cells = mc ∧ rm.slots = ms ∧ rm.frames + 1 ≤ R.frames ∧ 8 + (maxL + 11) + rm.locals ≤ R.locals ∧ (∀ w ∈ ws, ∀ (a' : Array Value) (U : State), s.WarmedH U.vm → w.before a' U = true) ∧ Cond.codeWith y bytes maxL ret hh ∈ ws) ∧
  (Cond.codeWith y bytes maxL ret hh).before args s = true ∧ (Cond.initialized y.cls).before args s = true ∧ (y.cls ≠ "java/lang/invoke/MethodHandle" ∧ y.cls ≠ "java/lang/invoke/VarHandle") ∧
  (∀ sig, parseMethodDescriptor y.desc = some sig → n = sig.parameters.length) ∧ (Cond.methodLink own index y).before args s = true ∧ (Cond.static y).before args s = true
theorem vx_cwSW {own : String} {index maxL mc ms : Nat} {y : MethodName} {bytes : ByteArray} {ret : Option FieldType} {hh : List (Nat × Nat × Nat × Nat)} {Ts ws ws' : List Cond} {rm : Room} (n : Nat) (ht : ∀ w ∈ Ts, w.before args s = true) (hT : GoodIn Ts (va_wsS own index y ws)) (hw : ws = Cond.codeWith y bytes maxL ret hh :: ws') (hrc : rm.cells = mc) (hrs : rm.slots = ms)
    (hd : y.cls ≠ "java/lang/invoke/MethodHandle" ∧ y.cls ≠ "java/lang/invoke/VarHandle" ∧ (parseMethodDescriptor y.desc).map (fun d => d.parameters.length) = some n) (hR : rm.frames + 1 ≤ R.frames ∧ 8 + (maxL + 11) + rm.locals ≤ R.locals) :
    vx_CSW R s args own index y bytes maxL ret hh ws rm mc ms n := by
  have ok : ∀ w ∈ va_wsS own index y ws, w.before args s = true := fun w h => ht w (hT w h).1
  have hG : GoodIn Ts ws := fun w h => hT w (by unfold va_wsS; exact List.mem_append_right _ h)
  have hc : Cond.codeWith y bytes maxL ret hh ∈ ws := by rw [hw]; exact List.mem_cons_self
  refine ⟨⟨hrc, hrs, hR.1, hR.2, pay_in ht hG, hc⟩, ht _ (hG _ hc).1, ok _ (by simp [va_wsS]), ⟨hd.1, hd.2.1⟩, fun sig h => ?_, ok _ (by simp [va_wsS]), ok _ (by simp [va_wsS])⟩
  have h2 := hd.2.2
  rw [h] at h2
  exact (Option.some.inj h2).symm
theorem vx_callSW (X : Stand p l e R s m args below meth c T locs cells slots) (hexec : p.tables.exec = Jvm.exec) {own : String} {index : Nat} {y : MethodName} {bytes : ByteArray} {maxL : Nat} {ret : Option FieldType} {hh : List (Nat × Nat × Nat × Nat)}
    (hown : s.vm.findClass own = some m.cls) (hlink : (Cond.methodLink own index y).before args s = true) (hstat : (Cond.static y).before args s = true) (hinit : (Cond.initialized y.cls).before args s = true)
    (hcode : (Cond.codeWith y bytes maxL ret hh).before args s = true) (hy : y.cls ≠ "java/lang/invoke/MethodHandle" ∧ y.cls ≠ "java/lang/invoke/VarHandle")
    {W9 : Nat} {Pre : Pt → Array Value → Prop} {Post : Pt → Array Value → Option Value → Pt → Prop} (hK : Back l R p e below s args y 3 W9 Pre Post)
    {g : JFrame} (hg : g.method = m) (hsize : g.locals.size = c.maxLocals) {argsL rest : List Value} (hlen : ∀ sig, parseMethodDescriptor y.desc = some sig → argsL.length = sig.parameters.length)
    (hstack : g.stack = argsL.reverse ++ rest) (hW : 2 * g.monitorRoom + (rest.map fun v => v.category).sum ≤ W9) (hdg : decode c.code g.pc = .ok (.invokestatic index, 3))
    (hpre : ∀ vm₁, s.WarmedH vm₁ → Pre ⟨T.setVm vm₁, locs, cells, slots⟩ argsL.toArray) :
    ∃ (v : Option Value) (vm₁ : Vm) (B : Pt), s.WarmedH vm₁ ∧ Stand p l e R s m args below meth c B.U B.locs B.cells B.slots ∧ Post ⟨T.setVm vm₁, locs, cells, slots⟩ argsL.toArray v B ∧
      ∀ target, Steps p.tables e below (B.U.setTop { g with pc := g.pc + 3, stack := v.toList ++ rest }) target → Steps p.tables e below (T.setTop g) target := by
  obtain ⟨mk, methM, cM, hnamed, hmethM, -, -, -, -, -, -, hsigM⟩ := Cond.codeWith_spec hcode
  have hstatic : methM.isStatic = true := Cond.static_spec hnamed hmethM hstat
  obtain ⟨kP, hkP, -⟩ := className_of_methodNamed hnamed
  have hinitP : kP.init = .initialized := Cond.initialized_spec (findClass_of_methodNamed hnamed) hkP hinit
  obtain ⟨vm₁, X₁, hstep₁⟩ := X.invokestatic hexec hown hlink hnamed hmethM hstatic hkP hinitP hy (g := g) hg (argsL := argsL) (rest := rest) (hlen _ hsigM) hstack hdg
  obtain ⟨v, B, X', hpost, hsteps⟩ := hK m meth c ⟨T.setVm vm₁, locs, cells, slots⟩ { g with stack := rest } (.invokestatic index) mk argsL.toArray X₁ hg hsize hdg hW (X₁.named hnamed) (hpre vm₁ X₁.warmed)
  exact ⟨v, vm₁, B, X₁.warmed, X', hpost, fun target h => hstep₁ _ fun acts => by rw [doInvoke_state]; exact hsteps.trans h⟩
theorem vx_runSW {y : MethodName} {bytes cc : ByteArray} {maxL nL mc ms n index : Nat} {ret : Option FieldType} {hh : List (Nat × Nat × Nat × Nat)} {ws : List Cond} {rm : Room} {Pc : Array Value → State → Prop} {Qc : Array Value → State → Outcome → State → Prop} {free : Addr → Prop} {Ts : List Cond} {own : String} {As rest : List Value} {g : JFrame}
    (S : CallFix p m c cc nL s args Ts own) (hM : Met l y ws rm Pc Qc mc ms free) (cw : vx_CSW R s args own index y bytes maxL ret hh ws rm mc ms n) (hp : PreS s H Pc As)
    (hg : g.method = m) (hn : As.length = n) (hsize : g.locals.size = nL) (hstack : g.stack = As.reverse ++ rest) (hW : 2 * g.monitorRoom + (rest.map fun v => v.category).sum ≤ 8) (hdg : decode cc g.pc = .ok (.invokestatic index, 3)) (hf : cells + mc ≤ R.cells ∧ slots + ms ≤ R.slots) :
    va_Run p l e R s m args below meth c H locs cells slots mc ms g rest (Qc As.toArray) (free) := by
  obtain ⟨⟨hrc, hrs, hfr, hlo, hws, hcw⟩, hcode, hini, hy, hlen, hl, hstt⟩ := cw
  have hK : Back l R p e below s args y 3 8 (PreOf R mc ms Pc) (PostOf Qc mc ms free) := va_backW (hh := hh) (bytes := bytes) (maxL := maxL) (ret := ret) hM hp.1 hrc hrs hfr hlo hws hcw (fun a' U hW => word_at hW (Or.inl (by first | rfl | simp [Cond.onTables, Cond.keeps, Cond.steady])) hini)
  obtain ⟨hx, hb, hml, ho, -⟩ := S
  intro T hT X
  obtain ⟨v, vm₁, ⟨U', l2, c2, s2⟩, hW₁, X', ⟨g', mk, t, L, e1, e2, hq, h1, hL, h2, h3⟩, st⟩ := vx_callSW X hx (hh := hh) (bytes := bytes) (maxL := maxL) (ret := ret) ho hl hstt hini hcode hy hK hg (hsize.trans hml.symm) (argsL := As) (rest := rest) (fun sig h => hn.trans (hlen sig h)) hstack hW (by rw [hb]; exact hdg)
    (fun vm₁ hW₁ => ⟨hf.1, hf.2, hp.2 (T.setVm vm₁) hT hW₁⟩)
  dsimp only [Pt.U, Pt.locs, Pt.cells, Pt.slots] at X' e1 e2 h1 h2 h3 st
  subst h1; subst h2; subst h3
  exact ⟨v, (T.setVm vm₁).calling g' mk As.toArray, t, U', L, hT, X', hL, e1, e2, hq, st⟩
/-- not caught here, past rows that name other classes: it goes on to the caller -/
theorem vx_outP {p : Program} {l : Launch} {e : Env} {R : Room} {s : State} {m : MethodId} {args : Array Value} {below : List Frame} {meth : Method} {c : Code} {H : Heap} {locs : List Loc} {cells slots : Nat} {free : Addr → Prop} {ls : Array Slot} {rest : List Value} {Qc : Array Value → State → Outcome → State → Prop} {XC : String → State → State → Prop}
    {pc : Nat} {own E : String} {ce : Cell} {q : Addr} {mc ms : Nat} (hown : s.vm.findClass own = some m.cls) (hlocks : meth.locks = false)
    (hpass : ∀ z ∈ c.exceptionTable.toList, covers z pc = false ∨ (z.catchType ≠ 0 ∧ ∃ nm : String, (Cond.classLink own z.catchType nm).before args s = true ∧ va_Nc E nm s)) (hcell : H[q]? = some ce) (hv : ce.vm = .none) (hcl : s.vm.findClass E = some ce.cls)
    (hx : ∀ t : State, t.heap = H → s.vm.Alike t.vm → XC E s t) (hf : ∀ z ∈ locs, free z.base) (hc : cells ≤ mc) (hs : slots ≤ ms) :
    vx_W p l e R s m args below meth c H locs cells slots (vx_MQ below Qc XC args s mc ms free) (F0 m pc ls rest) q := by
  intro T hT X
  have hpl : e.platform.magicAccessors = ({} : Platform).magicAccessors := by rw [X.admits.platform]
  obtain ⟨vm', hW', X', st⟩ := X.outThrough hlocks q (g := F0 m pc ls rest) rfl rfl rfl (cell := ce) (by rw [hT]; exact hcell) (by rw [hv]; rfl)
    (by obtain ⟨k9, h9, -⟩ := Vm.findClass_spec hcl; exact ⟨k9, h9⟩) (fun z hz => by
      rcases hpass z hz with h | ⟨hz0, nm, hl1, hn1⟩
      · exact Or.inl h
      · obtain ⟨c6, hc6, hcl6⟩ := Cond.classLink_spec hown hl1 e.platform hpl
        obtain ⟨a8, b8, h1, h2, h3⟩ := hn1
        cases Option.some.inj (h1.symm.trans hcl)
        cases Option.some.inj (h2.symm.trans hc6)
        exact Or.inr ⟨hz0, _, hcl6, h3⟩)
  obtain ⟨g₀, hfr⟩ := X'.frames_eq
  have hcell9 : ((T.setVm vm').setFrames (.throwing q :: below)).heap[q]? = some ce := by
    show T.heap[q]? = some ce
    rw [hT]; exact hcell
  have hend : Ended ((T.setVm vm').setFrames (.throwing q :: below)) below (.threw q) := State.frames_setFrames _ (State.cur_lt_of_frames hfr)
  refine ⟨(T.setVm vm').setFrames (.throwing q :: below), ?_, .threw q, X'.here.running, hend, Or.inr ⟨q, rfl, E, ce, locs, hx _ hT (X'.ends _).1.alike, hcell9, hv, hcl, (X'.ends _).1, (X'.ends _).2.mono hc hs, hf⟩⟩
  rw [X.pushThrowing_eq]
  exact st
/-- a thing of a world lies in the heap -/
theorem vx_lt {D : va_G} {cl : List vw_C} {ws : va_W} {H1 : Heap} (h : va_P D cl ws H1) {k : Nat} {q : Nat × va_E} (hk : ws[k]? = some q) : q.1 < H1.size := (h k q hk).lt
end VXS
/-! ===== END ===== -/
/-! ===== BEGIN methods with a table of their own: called by a name, returning or throwing ===== -/
section VXH
/-! vx_backW, vx_callVX, vx_callSX, vx_callVW, vx_runVW, vx_runVX, vx_runSX, vx_ofWH follow the same proofs as their sisters above (Free/Laws.lean, Shelf42/LK1.lean); vx_outP calls Shelf42/NT130.lean (outThrough). -/
section
variable {l : Launch} {R : Room} {p : Program} {e : Env} {below : List Frame} {s : State} {sargs : Array Value} {y : MethodName} {len W9 : Nat}
theorem vx_backW {ws : List Cond} {rm : Room} {Pc : Array Value → State → Prop} {Qc : Array Value → State → Outcome → State → Prop} {XC : String → State → State → Prop} {mc ms : Nat} {free : Addr → Prop} {bytes : ByteArray} {maxL : Nat} {ret : Option FieldType} {hh : List (Nat × Nat × Nat × Nat)}
    (hM : vx_Met l y ws rm Pc Qc XC mc ms free) (hblind : FrameBlind Pc) (hrc : rm.cells = mc) (hrs : rm.slots = ms)
    (hframes : rm.frames + 1 ≤ R.frames) (hlocals : W9 + (maxL + 11) + rm.locals ≤ R.locals)
    (hws : ∀ w ∈ ws, ∀ a' U, s.WarmedH U.vm → w.before a' U = true) (hcode : Cond.codeWith y bytes maxL ret hh ∈ ws) (hinit : ∀ a' U, s.WarmedH U.vm → (Cond.initialized y.cls).before a' U = true) :
    vx_Back l R p e below s sargs y len W9 (PreOf R mc ms Pc) (PostOf Qc mc ms free) (vx_Post XC mc ms free) := by
  intro m meth c A g ig mk a X hg hsize hdg hW hn hp
  have h1 : (headSpec ws rm).pre.before a A.U = true := atoms_intro fun w hw => hws w hw _ _ X.warmed
  have h2 : (Cond.codeWith y bytes maxL ret hh).before a A.U = true := hws _ hcode _ _ X.warmed
  have h3 : (Cond.initialized y.cls).before a A.U = true := hinit _ _ X.warmed
  have h4 : A.cells + (headSpec ws rm).room.cells ≤ R.cells := by rw [show (headSpec ws rm).room.cells = mc from hrc]; exact hp.1
  have h5 : A.slots + (headSpec ws rm).room.slots ≤ R.slots := by rw [show (headSpec ws rm).room.slots = ms from hrs]; exact hp.2.1
  have hPc : Pc a (A.U.calling g mk a) := hblind _ _ _ _ hp.2.2
  obtain ⟨U, Ls, c0, s0⟩ := A
  dsimp only [Pt.U, Pt.locs, Pt.cells, Pt.slots] at h1 h2 h3 h4 h5 X hn hPc ⊢
  obtain ⟨m9, methY, cY, hn9, hmY, hcY, -, hlY, -⟩ := Cond.codeWith_spec h2
  cases Option.some.inj (hn9.symm.trans hn)
  obtain ⟨kY, hkY, -⟩ := className_of_methodNamed hn
  have hinitY : kY.init = .initialized := Cond.initialized_spec (findClass_of_methodNamed hn) hkY h3
  have h : At U g.method c below := by rw [hg]; exact X.here
  have hlocals9 : W9 + (maxL + 11) + (headSpec ws rm).room.locals ≤ R.locals := hlocals
  have happ : (headSpec ws rm).appliesLoose y e.platform (U.calling g mk a) = true :=
    Spec.appliesLoose_calling (g := g) h hdg hn hkY hinitY
      (X.room_calling (g := g) (R' := (headSpec ws rm).room) hsize hmY hcY hframes (by rw [hlY]; omega) h4 h5) h1
  obtain ⟨mid, hmid⟩ := h.above
  have hfr : (U.setTop g).frames = (.java g :: mid) ++ below := by rw [State.frames_setTop' g h.top, hmid]; rfl
  obtain ⟨o, s₂, hsteps, -, hend, hq⟩ := Steps.callFree hM p X.admits X.cas X.clock (acts := []) hfr happ hPc trivial
  have hq' : vx_Q Qc XC mc ms free a (U.calling g mk a) o s₂ := hq
  rw [State.frames_setTop' g h.top] at hend
  obtain ⟨g₀, hg0⟩ := Option.isSome_iff_exists.mp h.top
  obtain ⟨r, hr⟩ := State.topJava?_eq_some.mp hg0
  have hr' : (({ U with heap := s₂.heap, slotsUsed := s₂.slotsUsed } : State).setVm s₂.vm).frames = .java g₀ :: r := hr
  rcases hq' with ⟨hqc, L, hfe, hL⟩ | ⟨q, rfl, E, ce, L, hx, hce, hcv, hcl, hW₂, hsm, hL⟩
  · obtain ⟨⟨v, rfl⟩, hW₂, e2, q2, q3, q4, q5, q6⟩ := id hfe
    have e3 : s₂ = ({ (U.calling g mk a).setFrames s₂.frames with heap := s₂.heap, slotsUsed := s₂.slotsUsed } : State).setVm s₂.vm := by
      have : s₂ = ({ s₂ with vm := (U.calling g mk a).vm } : State).setVm s₂.vm := rfl
      rw [e2] at this
      exact this
    obtain ⟨c₂, i₂, len₂, hc₂, hd₂, hf₂⟩ := hend
    have hW' : U.WarmedH s₂.vm := hW₂
    have hcc : c₂ = c := by
      have h1 : s₂.code? g.method = U.code? g.method := by
        rw [State.code?_eq, State.code?_eq, hW'.alike.method?]
      exact Option.some.inj (hc₂.symm.trans (h1.trans h.code))
    subst hcc
    have hlen : len₂ = len := by rw [hdg] at hd₂; cases hd₂; rfl
    subst hlen
    have hs₂ : s₂ = (({ U with heap := s₂.heap, slotsUsed := s₂.slotsUsed } : State).setVm s₂.vm).setTop { g with pc := g.pc + len₂, stack := v.toList ++ g.stack } := by
      refine e3.trans ?_
      rw [hf₂, State.calling_eq h.top, State.setFrames_setFrames, State.setTop_of_frames _ hr', hr]
      rfl
    have hsame : U.sameButNew ({ U with heap := s₂.heap, slotsUsed := s₂.slotsUsed } : State) L mc ms := by
      refine ⟨?_, q2, q3, q4, q5, q6⟩
      obtain ⟨t, ht, -⟩ := State.frames_cons hr
      show ({ U with heap := s₂.heap, slotsUsed := s₂.slotsUsed } : State) = { U.setFrames U.frames with heap := s₂.heap, slotsUsed := s₂.slotsUsed }
      rw [State.setFrames_self ht]
    subst hg
    refine Or.inl ⟨v, ⟨(({ U with heap := s₂.heap, slotsUsed := s₂.slotsUsed } : State).setVm s₂.vm), Ls ++ L, c0 + mc, s0 + ms⟩,
      ⟨X.admits, X.cas, X.clock, X.frames, X.room, X.hears, X.method, X.code, (X.here.setHeapUsed s₂.heap s₂.slotsUsed).setVm hW'.alike, X.tail, State.WarmedH.trans X.warmed hW', X.limits, X.bytes, X.same.trans (hsame.setVm s.vm)⟩,
      ⟨g, mk, s₂, L, rfl, rfl, hqc, rfl, hL, rfl, rfl⟩, ?_⟩
    show Steps p.tables e below _ ((({ U with heap := s₂.heap, slotsUsed := s₂.slotsUsed } : State).setVm s₂.vm).setTop { g with pc := g.pc + len₂, stack := v.toList ++ g.stack })
    rw [← hs₂]
    exact hsteps
  · obtain ⟨e2, q2, q3, q4, q5, q6⟩ := id hsm
    have e3 : s₂ = ({ (U.calling g mk a).setFrames s₂.frames with heap := s₂.heap, slotsUsed := s₂.slotsUsed } : State).setVm s₂.vm := by
      have : s₂ = ({ s₂ with vm := (U.calling g mk a).vm } : State).setVm s₂.vm := rfl
      rw [e2] at this
      exact this
    have hf₂ : s₂.frames = .throwing q :: .java g :: U.frames.tail := hend
    have hW' : U.WarmedH s₂.vm := hW₂
    have hs₂ : s₂ = ((({ U with heap := s₂.heap, slotsUsed := s₂.slotsUsed } : State).setVm s₂.vm).setTop g).pushFrame (.throwing q) := by
      refine e3.trans ?_
      rw [hf₂, State.calling_eq h.top, State.setFrames_setFrames, State.pushFrame, State.frames_setTop _ hr', State.setTop_of_frames _ hr', State.setFrames_setFrames, hr]
      rfl
    have hsame : U.sameButNew ({ U with heap := s₂.heap, slotsUsed := s₂.slotsUsed } : State) L mc ms := by
      refine ⟨?_, q2, q3, q4, q5, q6⟩
      obtain ⟨t, ht, -⟩ := State.frames_cons hr
      show ({ U with heap := s₂.heap, slotsUsed := s₂.slotsUsed } : State) = { U.setFrames U.frames with heap := s₂.heap, slotsUsed := s₂.slotsUsed }
      rw [State.setFrames_self ht]
    subst hg
    refine Or.inr ⟨q, ⟨(({ U with heap := s₂.heap, slotsUsed := s₂.slotsUsed } : State).setVm s₂.vm), Ls ++ L, c0 + mc, s0 + ms⟩,
      ⟨X.admits, X.cas, X.clock, X.frames, X.room, X.hears, X.method, X.code, (X.here.setHeapUsed s₂.heap s₂.slotsUsed).setVm hW'.alike, X.tail, State.WarmedH.trans X.warmed hW', X.limits, X.bytes, X.same.trans (hsame.setVm s.vm)⟩,
      ⟨g, mk, s₂, L, E, ce, rfl, rfl, hx, hce, hcv, hcl, rfl, hL, rfl, rfl⟩, ?_⟩
    show Steps p.tables e below _ (((({ U with heap := s₂.heap, slotsUsed := s₂.slotsUsed } : State).setVm s₂.vm).setTop g).pushFrame (.throwing q))
    rw [← hs₂]
    exact hsteps
end
variable {p : Program} {l : Launch} {e : Env} {R : Room} {s : State} {m : MethodId} {args : Array Value} {below : List Frame} {meth : Method} {c : Code} {T : State} {H : Heap} {locs : List Loc} {cells slots : Nat}
theorem vx_callVX (X : Stand p l e R s m args below meth c T locs cells slots) (hexec : p.tables.exec = Jvm.exec) {own C : String} {index : Nat} {y : MethodName} {bytes : ByteArray} {maxL : Nat} {ret : Option FieldType} {hh : List (Nat × Nat × Nat × Nat)}
    (hown : s.vm.findClass own = some m.cls) (hlink : (Cond.methodLink own index y).before args s = true) (hinst : (Cond.instanceMethod y).before args s = true) (hsel : (Cond.selects C y y).before args s = true)
    (hcode : (Cond.codeWith y bytes maxL ret hh).before args s = true) (hy : y.cls ≠ "java/lang/invoke/MethodHandle" ∧ y.cls ≠ "java/lang/invoke/VarHandle")
    {W9 : Nat} {Pre : Pt → Array Value → Prop} {Post : Pt → Array Value → Option Value → Pt → Prop} {PostX : Pt → Array Value → Addr → Pt → Prop} (hK : vx_Back l R p e below s args y 3 W9 Pre Post PostX)
    {b : Addr} {cellB : Cell} (hcell : T.heap[b]? = some cellB) (hobj : cellB.vm.isStatics = false) (hcls : s.vm.findClass C = some cellB.cls)
    {g : JFrame} (hg : g.method = m) (hsize : g.locals.size = c.maxLocals) {argsL rest : List Value} (hlen : ∀ sig, parseMethodDescriptor y.desc = some sig → argsL.length = sig.parameters.length)
    (hstack : g.stack = argsL.reverse ++ .ref b :: rest) (hW : 2 * g.monitorRoom + (rest.map fun v => v.category).sum ≤ W9) (hdg : decode c.code g.pc = .ok (.invokevirtual index, 3))
    (hpre : ∀ vm₁, s.WarmedH vm₁ → Pre ⟨T.setVm vm₁, locs, cells, slots⟩ (Value.ref b :: argsL).toArray) :
    (∃ (v : Option Value) (vm₁ : Vm) (B : Pt), s.WarmedH vm₁ ∧ Stand p l e R s m args below meth c B.U B.locs B.cells B.slots ∧ Post ⟨T.setVm vm₁, locs, cells, slots⟩ (Value.ref b :: argsL).toArray v B ∧
      ∀ target, Steps p.tables e below (B.U.setTop { g with pc := g.pc + 3, stack := v.toList ++ rest }) target → Steps p.tables e below (T.setTop g) target) ∨
    (∃ (q : Addr) (vm₁ : Vm) (B : Pt), s.WarmedH vm₁ ∧ Stand p l e R s m args below meth c B.U B.locs B.cells B.slots ∧ PostX ⟨T.setVm vm₁, locs, cells, slots⟩ (Value.ref b :: argsL).toArray q B ∧
      Steps p.tables e below (T.setTop g) ((B.U.setTop { g with stack := rest }).pushFrame (.throwing q))) := by
  obtain ⟨mk, methM, hnamed, hmethM, hstM, habM⟩ := Cond.instanceMethod_spec hinst
  obtain ⟨m8, methM', cM, hn8, hmethM', -, -, -, -, -, -, hsigM⟩ := Cond.codeWith_spec hcode
  cases Option.some.inj (hn8.symm.trans hnamed)
  cases hmethM.symm.trans hmethM'
  obtain ⟨c2, r2, m2, q1, q2, q3, q4, kP, hkP, hkPi⟩ := Cond.selects_spec hsel
  cases hcls.symm.trans q1
  cases (State.methodFound?_of_named hnamed hy).symm.trans q2
  cases hnamed.symm.trans q3
  have hselP : selectMethod e.platform s.vm cellB.cls mk = .method mk := by rw [Launch.admits_selectMethod X.admits]; exact q4
  obtain ⟨vm₁, X₁, hstep₁⟩ := X.invokevirtual hexec hown hlink hnamed hmethM hstM hkP hkPi hy (a := b) (cell := cellB) hcell
    (fun z h => by rw [h] at hobj; cases hobj) hselP hmethM habM hkP hkPi (g := g) hg (argsL := argsL) (rest := rest) (hlen _ hsigM) hstack hdg
  rcases hK m meth c ⟨T.setVm vm₁, locs, cells, slots⟩ { g with stack := rest } (.invokevirtual index) mk (Value.ref b :: argsL).toArray X₁ hg hsize hdg hW (X₁.named hnamed) (hpre vm₁ X₁.warmed) with ⟨v, B, X', hpost, hsteps⟩ | ⟨q, B, X', hpost, hsteps⟩
  · exact Or.inl ⟨v, vm₁, B, X₁.warmed, X', hpost, fun target h => hstep₁ _ fun acts => by rw [doInvoke_state]; exact hsteps.trans h⟩
  · exact Or.inr ⟨q, vm₁, B, X₁.warmed, X', hpost, hstep₁ _ fun acts => by rw [doInvoke_state]; exact hsteps⟩
theorem vx_callSX (X : Stand p l e R s m args below meth c T locs cells slots) (hexec : p.tables.exec = Jvm.exec) {own : String} {index : Nat} {y : MethodName} {bytes : ByteArray} {maxL : Nat} {ret : Option FieldType} {hh : List (Nat × Nat × Nat × Nat)}
    (hown : s.vm.findClass own = some m.cls) (hlink : (Cond.methodLink own index y).before args s = true) (hstat : (Cond.static y).before args s = true) (hinit : (Cond.initialized y.cls).before args s = true)
    (hcode : (Cond.codeWith y bytes maxL ret hh).before args s = true) (hy : y.cls ≠ "java/lang/invoke/MethodHandle" ∧ y.cls ≠ "java/lang/invoke/VarHandle")
    {W9 : Nat} {Pre : Pt → Array Value → Prop} {Post : Pt → Array Value → Option Value → Pt → Prop} {PostX : Pt → Array Value → Addr → Pt → Prop} (hK : vx_Back l R p e below s args y 3 W9 Pre Post PostX)
    {g : JFrame} (hg : g.method = m) (hsize : g.locals.size = c.maxLocals) {argsL rest : List Value} (hlen : ∀ sig, parseMethodDescriptor y.desc = some sig → argsL.length = sig.parameters.length)
    (hstack : g.stack = argsL.reverse ++ rest) (hW : 2 * g.monitorRoom + (rest.map fun v => v.category).sum ≤ W9) (hdg : decode c.code g.pc = .ok (.invokestatic index, 3))
    (hpre : ∀ vm₁, s.WarmedH vm₁ → Pre ⟨T.setVm vm₁, locs, cells, slots⟩ argsL.toArray) :
    (∃ (v : Option Value) (vm₁ : Vm) (B : Pt), s.WarmedH vm₁ ∧ Stand p l e R s m args below meth c B.U B.locs B.cells B.slots ∧ Post ⟨T.setVm vm₁, locs, cells, slots⟩ argsL.toArray v B ∧
      ∀ target, Steps p.tables e below (B.U.setTop { g with pc := g.pc + 3, stack := v.toList ++ rest }) target → Steps p.tables e below (T.setTop g) target) ∨
    (∃ (q : Addr) (vm₁ : Vm) (B : Pt), s.WarmedH vm₁ ∧ Stand p l e R s m args below meth c B.U B.locs B.cells B.slots ∧ PostX ⟨T.setVm vm₁, locs, cells, slots⟩ argsL.toArray q B ∧
      Steps p.tables e below (T.setTop g) ((B.U.setTop { g with stack := rest }).pushFrame (.throwing q))) := by
  obtain ⟨mk, methM, cM, hnamed, hmethM, -, -, -, -, -, -, hsigM⟩ := Cond.codeWith_spec hcode
  have hstatic : methM.isStatic = true := Cond.static_spec hnamed hmethM hstat
  obtain ⟨kP, hkP, -⟩ := className_of_methodNamed hnamed
  have hinitP : kP.init = .initialized := Cond.initialized_spec (findClass_of_methodNamed hnamed) hkP hinit
  obtain ⟨vm₁, X₁, hstep₁⟩ := X.invokestatic hexec hown hlink hnamed hmethM hstatic hkP hinitP hy (g := g) hg (argsL := argsL) (rest := rest) (hlen _ hsigM) hstack hdg
  rcases hK m meth c ⟨T.setVm vm₁, locs, cells, slots⟩ { g with stack := rest } (.invokestatic index) mk argsL.toArray X₁ hg hsize hdg hW (X₁.named hnamed) (hpre vm₁ X₁.warmed) with ⟨v, B, X', hpost, hsteps⟩ | ⟨q, B, X', hpost, hsteps⟩
  · exact Or.inl ⟨v, vm₁, B, X₁.warmed, X', hpost, fun target h => hstep₁ _ fun acts => by rw [doInvoke_state]; exact hsteps.trans h⟩
  · exact Or.inr ⟨q, vm₁, B, X₁.warmed, X', hpost, hstep₁ _ fun acts => by rw [doInvoke_state]; exact hsteps⟩
theorem vx_callVW (X : Stand p l e R s m args below meth c T locs cells slots) (hexec : p.tables.exec = Jvm.exec) {own C : String} {index : Nat} {y : MethodName} {bytes : ByteArray} {maxL : Nat} {ret : Option FieldType} {hh : List (Nat × Nat × Nat × Nat)}
    (hown : s.vm.findClass own = some m.cls) (hlink : (Cond.methodLink own index y).before args s = true) (hinst : (Cond.instanceMethod y).before args s = true) (hsel : (Cond.selects C y y).before args s = true)
    (hcode : (Cond.codeWith y bytes maxL ret hh).before args s = true) (hy : y.cls ≠ "java/lang/invoke/MethodHandle" ∧ y.cls ≠ "java/lang/invoke/VarHandle")
    {W9 : Nat} {Pre : Pt → Array Value → Prop} {Post : Pt → Array Value → Option Value → Pt → Prop} (hK : Back l R p e below s args y 3 W9 Pre Post)
    {b : Addr} {cellB : Cell} (hcell : T.heap[b]? = some cellB) (hobj : cellB.vm.isStatics = false) (hcls : s.vm.findClass C = some cellB.cls)
    {g : JFrame} (hg : g.method = m) (hsize : g.locals.size = c.maxLocals) {argsL rest : List Value} (hlen : ∀ sig, parseMethodDescriptor y.desc = some sig → argsL.length = sig.parameters.length)
    (hstack : g.stack = argsL.reverse ++ .ref b :: rest) (hW : 2 * g.monitorRoom + (rest.map fun v => v.category).sum ≤ W9) (hdg : decode c.code g.pc = .ok (.invokevirtual index, 3))
    (hpre : ∀ vm₁, s.WarmedH vm₁ → Pre ⟨T.setVm vm₁, locs, cells, slots⟩ (Value.ref b :: argsL).toArray) :
    ∃ (v : Option Value) (vm₁ : Vm) (B : Pt), s.WarmedH vm₁ ∧ Stand p l e R s m args below meth c B.U B.locs B.cells B.slots ∧ Post ⟨T.setVm vm₁, locs, cells, slots⟩ (Value.ref b :: argsL).toArray v B ∧
      ∀ target, Steps p.tables e below (B.U.setTop { g with pc := g.pc + 3, stack := v.toList ++ rest }) target → Steps p.tables e below (T.setTop g) target := by
  obtain ⟨mk, methM, hnamed, hmethM, hstM, habM⟩ := Cond.instanceMethod_spec hinst
  obtain ⟨m8, methM', cM, hn8, hmethM', -, -, -, -, -, -, hsigM⟩ := Cond.codeWith_spec hcode
  cases Option.some.inj (hn8.symm.trans hnamed)
  cases hmethM.symm.trans hmethM'
  obtain ⟨c2, r2, m2, q1, q2, q3, q4, kP, hkP, hkPi⟩ := Cond.selects_spec hsel
  cases hcls.symm.trans q1
  cases (State.methodFound?_of_named hnamed hy).symm.trans q2
  cases hnamed.symm.trans q3
  have hselP : selectMethod e.platform s.vm cellB.cls mk = .method mk := by rw [Launch.admits_selectMethod X.admits]; exact q4
  obtain ⟨vm₁, X₁, hstep₁⟩ := X.invokevirtual hexec hown hlink hnamed hmethM hstM hkP hkPi hy (a := b) (cell := cellB) hcell
    (fun z h => by rw [h] at hobj; cases hobj) hselP hmethM habM hkP hkPi (g := g) hg (argsL := argsL) (rest := rest) (hlen _ hsigM) hstack hdg
  obtain ⟨v, B, X', hpost, hsteps⟩ := hK m meth c ⟨T.setVm vm₁, locs, cells, slots⟩ { g with stack := rest } (.invokevirtual index) mk (Value.ref b :: argsL).toArray X₁ hg hsize hdg hW (X₁.named hnamed) (hpre vm₁ X₁.warmed)
  exact ⟨v, vm₁, B, X₁.warmed, X', hpost, fun target h => hstep₁ _ fun acts => by rw [doInvoke_state]; exact hsteps.trans h⟩
abbrev vx_CVW (R : Room) (s : State) (args : Array Value) (own C : String) (index : Nat) (y : MethodName) (bytes : ByteArray) (maxL : Nat) (ret : Option FieldType) (hh : List (Nat × Nat × Nat × Nat)) (ws : List Cond) (rm : Room) (mc ms n : Nat) : Prop :=
  (rm.cells = mc ∧ rm.slots = ms ∧ rm.frames + 1 ≤ R.frames ∧ 8 + (maxL + 11) + rm.locals ≤ R.locals ∧ (∀ w ∈ ws, ∀ (a' : Array Value) (U : State), s.WarmedH U.vm → w.before a' U = true) ∧ Cond.codeWith y bytes maxL ret hh ∈ ws) ∧
  (Cond.codeWith y bytes maxL ret hh).before args s = true ∧ (Cond.initialized y.cls).before args s = true ∧ (y.cls ≠ "java/lang/invoke/MethodHandle" ∧ y.cls ≠ "java/lang/invoke/VarHandle") ∧
  (∀ sig, parseMethodDescriptor y.desc = some sig → n = sig.parameters.length) ∧ (Cond.methodLink own index y).before args s = true ∧ (Cond.instanceMethod y).before args s = true ∧ (Cond.selects C y y).before args s = true
theorem vx_cwVW {own C : String} {index maxL mc ms : Nat} {y : MethodName} {bytes : ByteArray} {ret : Option FieldType} {hh : List (Nat × Nat × Nat × Nat)} {Ts ws ws' : List Cond} {rm : Room} (n : Nat) (ht : ∀ w ∈ Ts, w.before args s = true) (hT : GoodIn Ts (wsV own index C y ws)) (hw : ws = Cond.codeWith y bytes maxL ret hh :: ws') (hrc : rm.cells = mc) (hrs : rm.slots = ms)
    (hd : y.cls = C ∧ y.cls ≠ "java/lang/invoke/MethodHandle" ∧ y.cls ≠ "java/lang/invoke/VarHandle" ∧ (parseMethodDescriptor y.desc).map (fun d => d.parameters.length) = some n) (hR : rm.frames + 1 ≤ R.frames ∧ 8 + (maxL + 11) + rm.locals ≤ R.locals) :
    vx_CVW R s args own C index y bytes maxL ret hh ws rm mc ms n := by
  obtain ⟨hC, hd⟩ := hd
  subst hC
  have ok : ∀ w ∈ wsV own index y.cls y ws, w.before args s = true := fun w h => ht w (hT w h).1
  have hG : GoodIn Ts ws := fun w h => hT w (by unfold wsV; exact List.mem_append_right _ h)
  have hc : Cond.codeWith y bytes maxL ret hh ∈ ws := by rw [hw]; exact List.mem_cons_self
  refine ⟨⟨hrc, hrs, hR.1, hR.2, pay_in ht hG, hc⟩, ht _ (hG _ hc).1, ok _ (by simp [wsV]), ⟨hd.1, hd.2.1⟩, fun sig h => ?_, ok _ (by simp [wsV]), ok _ (by simp [wsV]), ok _ (by simp [wsV])⟩
  have h2 := hd.2.2
  rw [h] at h2
  exact (Option.some.inj h2).symm
theorem vx_runVW {y : MethodName} {bytes cc : ByteArray} {maxL nL mc ms n index : Nat} {ret : Option FieldType} {hh : List (Nat × Nat × Nat × Nat)} {ws : List Cond} {rm : Room} {Pc : Array Value → State → Prop} {Qc : Array Value → State → Outcome → State → Prop} {free : Addr → Prop} {Ts : List Cond} {own C : String} {b : Addr} {As rest : List Value} {g : JFrame}
    (S : CallFix p m c cc nL s args Ts own) (hM : Met l y ws rm Pc Qc mc ms free) (cw : vx_CVW R s args own C index y bytes maxL ret hh ws rm mc ms n) (hp : PreV s H C b Pc As)
    (hg : g.method = m) (hn : As.length = n) (hsize : g.locals.size = nL) (hstack : g.stack = As.reverse ++ .ref b :: rest) (hW : 2 * g.monitorRoom + (rest.map fun v => v.category).sum ≤ 8) (hdg : decode cc g.pc = .ok (.invokevirtual index, 3)) (hf : cells + mc ≤ R.cells ∧ slots + ms ≤ R.slots) :
    va_Run p l e R s m args below meth c H locs cells slots mc ms g rest (Qc (Value.ref b :: As).toArray) free := by
  obtain ⟨⟨hrc, hrs, hfr, hlo, hws, hcw⟩, hcode, hini, hy, hlen, hl, hin, hse⟩ := cw
  have hK : Back l R p e below s args y 3 8 (PreOf R mc ms Pc) (PostOf Qc mc ms free) := va_backW (hh := hh) (bytes := bytes) (maxL := maxL) (ret := ret) hM hp.1 hrc hrs hfr hlo hws hcw (fun a' U hW => word_at hW (Or.inl (by first | rfl | simp [Cond.onTables, Cond.keeps, Cond.steady])) hini)
  obtain ⟨hx, hb, hml, ho, -⟩ := S
  obtain ⟨-, ⟨cellB, hcB, hoB, hclB⟩, hPc⟩ := hp
  intro T hT X
  obtain ⟨v, vm₁, ⟨U', l2, c2, s2⟩, hW₁, X', ⟨g', mk, t, L, e1, e2, hq, h1, hL, h2, h3⟩, st⟩ := vx_callVW X hx (C := C) (hh := hh) (bytes := bytes) (maxL := maxL) (ret := ret) ho hl hin hse hcode hy hK (by rw [hT]; exact hcB) hoB hclB hg (hsize.trans hml.symm) (argsL := As) (rest := rest) (fun sig h => hn.trans (hlen sig h)) hstack hW (by rw [hb]; exact hdg)
    (fun vm₁ hW₁ => ⟨hf.1, hf.2, hPc (T.setVm vm₁) hT hW₁⟩)
  dsimp only [Pt.U, Pt.locs, Pt.cells, Pt.slots] at X' e1 e2 h1 h2 h3 st
  subst h1; subst h2; subst h3
  exact ⟨v, (T.setVm vm₁).calling g' mk (Value.ref b :: As).toArray, t, U', L, hT, X', hL, e1, e2, hq, st⟩
section
variable {y : MethodName} {bytes cc : ByteArray} {maxL nL mc ms n index : Nat} {ret : Option FieldType} {ws : List Cond} {rm : Room} {Pc : Array Value → State → Prop} {Qc : Array Value → State → Outcome → State → Prop} {XC : String → State → State → Prop} {free : Addr → Prop} {Ts : List Cond} {own C : String} {b : Addr} {As rest : List Value} {g : JFrame}
theorem vx_runVX {hh : List (Nat × Nat × Nat × Nat)} (S : CallFix p m c cc nL s args Ts own) (hM : vx_Met l y ws rm Pc Qc XC mc ms free) (cw : vx_CVW R s args own C index y bytes maxL ret hh ws rm mc ms n) (hp : PreV s H C b Pc As)
    (hg : g.method = m) (hn : As.length = n) (hsize : g.locals.size = nL) (hstack : g.stack = As.reverse ++ .ref b :: rest) (hW : 2 * g.monitorRoom + (rest.map fun v => v.category).sum ≤ 8) (hdg : decode cc g.pc = .ok (.invokevirtual index, 3)) (hf : cells + mc ≤ R.cells ∧ slots + ms ≤ R.slots) :
    vx_Run p l e R s m args below meth c H locs cells slots mc ms g rest (Qc (Value.ref b :: As).toArray) XC free := by
  obtain ⟨⟨hrc, hrs, hfr, hlo, hws, hcw⟩, hcode, hini, hy, hlen, hl, hin, hse⟩ := cw
  have hK : vx_Back l R p e below s args y 3 8 (PreOf R mc ms Pc) (PostOf Qc mc ms free) (vx_Post XC mc ms free) := vx_backW (hh := hh) (bytes := bytes) (maxL := maxL) (ret := ret) hM hp.1 hrc hrs hfr hlo hws hcw (fun a' U hW => word_at hW (Or.inl (by first | rfl | simp [Cond.onTables, Cond.keeps, Cond.steady])) hini)
  obtain ⟨hx, hb, hml, ho, -⟩ := S
  obtain ⟨-, ⟨cellB, hcB, hoB, hclB⟩, hPc⟩ := hp
  intro T hT X
  rcases vx_callVX X hx (C := C) (hh := hh) (bytes := bytes) (maxL := maxL) (ret := ret) ho hl hin hse hcode hy hK (by rw [hT]; exact hcB) hoB hclB hg (hsize.trans hml.symm) (argsL := As) (rest := rest) (fun sig h => hn.trans (hlen sig h)) hstack hW (by rw [hb]; exact hdg)
    (fun vm₁ hW₁ => ⟨hf.1, hf.2, hPc (T.setVm vm₁) hT hW₁⟩) with ⟨v, vm₁, ⟨U', l2, c2, s2⟩, hW₁, X', ⟨g', mk, t, L, e1, e2, hq, h1, hL, h2, h3⟩, st⟩ | ⟨q, vm₁, ⟨U', l2, c2, s2⟩, hW₁, X', ⟨g', mk, t, L, E, ce, e1, e2, hq, hce, hcv, hcl, h1, hL, h2, h3⟩, st⟩
  · dsimp only [Pt.U, Pt.locs, Pt.cells, Pt.slots] at X' e1 e2 h1 h2 h3 st
    subst h1; subst h2; subst h3
    exact Or.inl ⟨v, (T.setVm vm₁).calling g' mk (Value.ref b :: As).toArray, t, U', L, hT, X', hL, e1, e2, hq, st⟩
  · dsimp only [Pt.U, Pt.locs, Pt.cells, Pt.slots] at X' e1 e2 h1 h2 h3 st hcl
    subst h1; subst h2; subst h3
    exact Or.inr ⟨q, (T.setVm vm₁).calling g' mk (Value.ref b :: As).toArray, t, U', L, E, ce, hT, X', hL, e1, e2, hq, hce, hcv, vx_cls hW₁ hcl, st⟩
theorem vx_runSX {hh : List (Nat × Nat × Nat × Nat)} (S : CallFix p m c cc nL s args Ts own) (hM : vx_Met l y ws rm Pc Qc XC mc ms free) (cw : vx_CSW R s args own index y bytes maxL ret hh ws rm mc ms n) (hp : PreS s H Pc As)
    (hg : g.method = m) (hn : As.length = n) (hsize : g.locals.size = nL) (hstack : g.stack = As.reverse ++ rest) (hW : 2 * g.monitorRoom + (rest.map fun v => v.category).sum ≤ 8) (hdg : decode cc g.pc = .ok (.invokestatic index, 3)) (hf : cells + mc ≤ R.cells ∧ slots + ms ≤ R.slots) :
    vx_Run p l e R s m args below meth c H locs cells slots mc ms g rest (Qc As.toArray) XC free := by
  obtain ⟨⟨hrc, hrs, hfr, hlo, hws, hcw⟩, hcode, hini, hy, hlen, hl, hstt⟩ := cw
  have hK : vx_Back l R p e below s args y 3 8 (PreOf R mc ms Pc) (PostOf Qc mc ms free) (vx_Post XC mc ms free) := vx_backW (hh := hh) (bytes := bytes) (maxL := maxL) (ret := ret) hM hp.1 hrc hrs hfr hlo hws hcw (fun a' U hW => word_at hW (Or.inl (by first | rfl | simp [Cond.onTables, Cond.keeps, Cond.steady])) hini)
  obtain ⟨hx, hb, hml, ho, -⟩ := S
  intro T hT X
  rcases vx_callSX X hx (hh := hh) (bytes := bytes) (maxL := maxL) (ret := ret) ho hl hstt hini hcode hy hK hg (hsize.trans hml.symm) (argsL := As) (rest := rest) (fun sig h => hn.trans (hlen sig h)) hstack hW (by rw [hb]; exact hdg)
    (fun vm₁ hW₁ => ⟨hf.1, hf.2, hp.2 (T.setVm vm₁) hT hW₁⟩) with ⟨v, vm₁, ⟨U', l2, c2, s2⟩, hW₁, X', ⟨g', mk, t, L, e1, e2, hq, h1, hL, h2, h3⟩, st⟩ | ⟨q, vm₁, ⟨U', l2, c2, s2⟩, hW₁, X', ⟨g', mk, t, L, E, ce, e1, e2, hq, hce, hcv, hcl, h1, hL, h2, h3⟩, st⟩
  · dsimp only [Pt.U, Pt.locs, Pt.cells, Pt.slots] at X' e1 e2 h1 h2 h3 st
    subst h1; subst h2; subst h3
    exact Or.inl ⟨v, (T.setVm vm₁).calling g' mk As.toArray, t, U', L, hT, X', hL, e1, e2, hq, st⟩
  · dsimp only [Pt.U, Pt.locs, Pt.cells, Pt.slots] at X' e1 e2 h1 h2 h3 st hcl
    subst h1; subst h2; subst h3
    exact Or.inr ⟨q, (T.setVm vm₁).calling g' mk As.toArray, t, U', L, E, ce, hT, X', hL, e1, e2, hq, hce, hcv, vx_cls hW₁ hcl, st⟩
end
end VXH
theorem vx_ofWH {l : Launch} {y : MethodName} {ws ws' : List Cond} {rm : Room} {Pc : Array Value → State → Prop} {Qc : Array Value → State → Outcome → State → Prop} {XC : String → State → State → Prop} {mc ms : Nat} {free : Addr → Prop} {cc : ByteArray} {maxL : Nat} {ret : Option FieldType} {hh : List (Nat × Nat × Nat × Nat)}
    (hy : plainName y.cls = true) (hw : ws = Cond.codeWith y cc maxL ret hh :: ws')
    (body : ∀ p e s m args below meth c s₁, BodyLoose p l y (headSpec ws rm) cc maxL ret e s m args below meth c s₁ → c.maxLocals = maxL → Pc args s →
      W p l e (headSpec ws rm).room s m args below meth c s.heap [] 0 0 (vx_MQ below Qc XC args s mc ms free) (entryFrame m args maxL)) : vx_Met l y ws rm Pc Qc XC mc ms free := by
  refine MetFree.of_bodyS (code := cc) (maxLocals := maxL) (ret := ret) hy ?_ ?_
  · intro args s m h hn
    obtain ⟨m9, meth, c, hn9, h1, h2, h3, h4, -, h5, h6, -⟩ := Cond.codeWith_spec (atoms_spec (ws := ws) h _ (by rw [hw]; exact List.mem_cons_self))
    cases hn.symm.trans hn9
    exact ⟨meth, c, h1, h2, h3, h4, h5, h6⟩
  · intro p e s m args below meth c s₁ B hml hP _
    have hh0 : s₁.heap = s.heap := by rw [B.state]; rfl
    obtain ⟨t, a1, o, b1, b2, b3⟩ := body p e s m args below meth c s₁ B hml hP s₁ hh0 (Stand.of_body B)
    exact ⟨t, o, a1, b1, b2, b3⟩
/-! ===== END ===== -/
end
section
/-! ===== BEGIN printed: names, fields, word lists, decode rows ===== -/
def RX0 : String := "LocalBounds"
def TX0 : u_T := fun k => match k with
  | 0 => ("LocalBounds", "width", "I", true)
  | 1 => ("LocalBounds", "height", "I", true)
  | 2 => ("LocalBounds", "count", "I", true)
  | 3 => ("LocalBounds", "samples", "[I", true)
  | 4 => ("LocalBounds", "black", "[Z", true)
  | 5 => ("LocalBounds", "lost", "J", false)
  | 6 => ("LocalBounds", "ofGrey", "[I", true)
  | 7 => ("LocalBounds", "came", "[I", true)
  | 8 => ("LocalBounds", "sums", "[J", true)
  | 9 => ("LocalBounds", "squareSums", "[J", true)
  | 10 => ("LocalBounds", "marked", "[Z", true)
  | 11 => ("LocalBounds", "queue", "[I", true)
  | _ => ("LocalBounds", "queued", "I", false)
def tyX0 : Nat → FieldType := fun k => match k with
  | 0 => .int
  | 1 => .int
  | 2 => .int
  | 3 => .array .int
  | 4 => .array .boolean
  | 5 => .long
  | 6 => .array .int
  | 7 => .array .int
  | 8 => .array .long
  | 9 => .array .long
  | 10 => .array .boolean
  | 11 => .array .int
  | _ => .int
abbrev wsX00 : List Cond := u_ws RX0 TX0 13
theorem nmX0 : ∀ a, a < 13 → ∀ b, b < 13 → a ≠ b → (TX0 a).2.1 ≠ (TX0 b).2.1 := by decide +kernel
theorem tyX0_ok : ∀ k, k < 13 → parseFieldDescriptor (TX0 k).2.2.1 = some (tyX0 k) := by decide +kernel
abbrev cX0_init : ByteArray := prog_1_method_1_code
def yX0_init : MethodName := ⟨RX0, "<init>", "(II)V"⟩
abbrev cX0_put : ByteArray := prog_1_method_2_code
def yX0_put : MethodName := ⟨RX0, "put", "(III)I"⟩
abbrev cX0_paint : ByteArray := prog_1_method_3_code
def yX0_paint : MethodName := ⟨RX0, "paint", "(II)I"⟩
abbrev cX0_global : ByteArray := prog_1_method_4_code
def yX0_global : MethodName := ⟨RX0, "global", "()I"⟩
abbrev cX0_local : ByteArray := prog_1_method_5_code
def yX0_local : MethodName := ⟨RX0, "local", "(II)I"⟩
abbrev cX0_spread : ByteArray := prog_1_method_6_code
def yX0_spread : MethodName := ⟨RX0, "spread", "(I)I"⟩
abbrev cX0_rest : ByteArray := prog_1_method_7_code
def yX0_rest : MethodName := ⟨RX0, "rest", "()J"⟩
abbrev cX0_ordered : ByteArray := prog_1_method_8_code
def yX0_ordered : MethodName := ⟨RX0, "ordered", "(I)I"⟩
abbrev cX0_join : ByteArray := prog_1_method_9_code
def yX0_join : MethodName := ⟨RX0, "join", "(II)I"⟩
abbrev cX0_clean : ByteArray := prog_1_method_10_code
def yX0_clean : MethodName := ⟨RX0, "clean", "(I)I"⟩
abbrev cX0_edges : ByteArray := prog_1_method_11_code
def yX0_edges : MethodName := ⟨RX0, "edges", "()I"⟩
abbrev cX0_invert : ByteArray := prog_1_method_12_code
def yX0_invert : MethodName := ⟨RX0, "invert", "()I"⟩
abbrev cX0_at : ByteArray := prog_1_method_13_code
def yX0_at : MethodName := ⟨RX0, "at", "(II)Z"⟩
abbrev cX0_sum : ByteArray := prog_1_method_14_code
def yX0_sum : MethodName := ⟨RX0, "sum", "(IIIIZ)J"⟩
abbrev cX0_cell : ByteArray := prog_1_method_15_code
def yX0_cell : MethodName := ⟨RX0, "cell", "(III)I"⟩
abbrev cX0_told : ByteArray := prog_1_method_16_code
def yX0_told : MethodName := ⟨RX0, "told", "(I)I"⟩
abbrev cX0_clear : ByteArray := prog_1_method_17_code
def yX0_clear : MethodName := ⟨RX0, "clear", "()V"⟩
abbrev cX0_nearestSide : ByteArray := prog_1_method_18_code
def yX0_nearestSide : MethodName := ⟨RX0, "nearestSide", "(I)I"⟩
abbrev cX0_isInside : ByteArray := prog_1_method_19_code
def yX0_isInside : MethodName := ⟨RX0, "isInside", "(II)Z"⟩
abbrev cX0_placeOf : ByteArray := prog_1_method_20_code
def yX0_placeOf : MethodName := ⟨RX0, "placeOf", "(II)I"⟩
abbrev cX0_columnOf : ByteArray := prog_1_method_21_code
def yX0_columnOf : MethodName := ⟨RX0, "columnOf", "(I)I"⟩
abbrev cX0_rowOf : ByteArray := prog_1_method_22_code
def yX0_rowOf : MethodName := ⟨RX0, "rowOf", "(I)I"⟩
abbrev cX0_isPart : ByteArray := prog_1_method_23_code
def yX0_isPart : MethodName := ⟨RX0, "isPart", "(III)Z"⟩
abbrev cX0_countBlack : ByteArray := prog_1_method_24_code
def yX0_countBlack : MethodName := ⟨RX0, "countBlack", "()I"⟩
abbrev cX0_fillOfGrey : ByteArray := prog_1_method_25_code
def yX0_fillOfGrey : MethodName := ⟨RX0, "fillOfGrey", "()V"⟩
abbrev cX0_countGreys : ByteArray := prog_1_method_26_code
def yX0_countGreys : MethodName := ⟨RX0, "countGreys", "()I"⟩
abbrev cX0_bestBound : ByteArray := prog_1_method_27_code
def yX0_bestBound : MethodName := ⟨RX0, "bestBound", "()I"⟩
abbrev cX0_sumOfSamples : ByteArray := prog_1_method_28_code
def yX0_sumOfSamples : MethodName := ⟨RX0, "sumOfSamples", "()J"⟩
abbrev cX0_fillSums : ByteArray := prog_1_method_29_code
def yX0_fillSums : MethodName := ⟨RX0, "fillSums", "()V"⟩
abbrev cX0_cornerOf : ByteArray := prog_1_method_30_code
def yX0_cornerOf : MethodName := ⟨RX0, "cornerOf", "(II)I"⟩
abbrev cX0_sumBetween : ByteArray := prog_1_method_31_code
def yX0_sumBetween : MethodName := ⟨RX0, "sumBetween", "([JIIII)J"⟩
abbrev cX0_isDarkInWindow : ByteArray := prog_1_method_32_code
def yX0_isDarkInWindow : MethodName := ⟨RX0, "isDarkInWindow", "(IIII)Z"⟩
abbrev cX0_spreadRow : ByteArray := prog_1_method_33_code
def yX0_spreadRow : MethodName := ⟨RX0, "spreadRow", "(II)V"⟩
abbrev cX0_spreadSample : ByteArray := prog_1_method_34_code
def yX0_spreadSample : MethodName := ⟨RX0, "spreadSample", "(IIII)V"⟩
abbrev cX0_passTo : ByteArray := prog_1_method_35_code
def yX0_passTo : MethodName := ⟨RX0, "passTo", "(III)V"⟩
abbrev cX0_isCells : ByteArray := prog_1_method_36_code
def yX0_isCells : MethodName := ⟨RX0, "isCells", "(I)Z"⟩
abbrev cX0_cellNumber : ByteArray := prog_1_method_37_code
def yX0_cellNumber : MethodName := ⟨RX0, "cellNumber", "(III)I"⟩
abbrev cX0_quarterNumber : ByteArray := prog_1_method_38_code
def yX0_quarterNumber : MethodName := ⟨RX0, "quarterNumber", "(ZZ)I"⟩
abbrev cX0_enqueue : ByteArray := prog_1_method_39_code
def yX0_enqueue : MethodName := ⟨RX0, "enqueue", "(I)V"⟩
abbrev cX0_blackenRound : ByteArray := prog_1_method_40_code
def yX0_blackenRound : MethodName := ⟨RX0, "blackenRound", "(III)V"⟩
abbrev cX0_blackenUpTo : ByteArray := prog_1_method_41_code
def yX0_blackenUpTo : MethodName := ⟨RX0, "blackenUpTo", "(II)V"⟩
abbrev cX0_unmarkAll : ByteArray := prog_1_method_42_code
def yX0_unmarkAll : MethodName := ⟨RX0, "unmarkAll", "()V"⟩
abbrev cX0_gatherPart : ByteArray := prog_1_method_43_code
def yX0_gatherPart : MethodName := ⟨RX0, "gatherPart", "(IZ)V"⟩
abbrev cX0_gather : ByteArray := prog_1_method_44_code
def yX0_gather : MethodName := ⟨RX0, "gather", "(IIZ)V"⟩
abbrev cX0_countBlackParts : ByteArray := prog_1_method_45_code
def yX0_countBlackParts : MethodName := ⟨RX0, "countBlackParts", "()I"⟩
abbrev cX0_turnSpecks : ByteArray := prog_1_method_46_code
def yX0_turnSpecks : MethodName := ⟨RX0, "turnSpecks", "(ZI)I"⟩
abbrev cX0_isSpeck : ByteArray := prog_1_method_47_code
def yX0_isSpeck : MethodName := ⟨RX0, "isSpeck", "(ZI)Z"⟩
abbrev cX0_queuedComeToEdge : ByteArray := prog_1_method_48_code
def yX0_queuedComeToEdge : MethodName := ⟨RX0, "queuedComeToEdge", "()Z"⟩
abbrev cX0_turnQueued : ByteArray := prog_1_method_49_code
def yX0_turnQueued : MethodName := ⟨RX0, "turnQueued", "(Z)I"⟩
abbrev cX0_isEdge : ByteArray := prog_1_method_50_code
def yX0_isEdge : MethodName := ⟨RX0, "isEdge", "(II)Z"⟩
abbrev cX0_isBlack : ByteArray := prog_1_method_51_code
def yX0_isBlack : MethodName := ⟨RX0, "isBlack", "(II)Z"⟩
def RX1 : String := "LocalBoundsModel"
def TX1 : u_T := fun k => match k with
  | 0 => ("LocalBoundsModel", "thrown", "I", false)
  | 1 => ("LocalBoundsModel", "width", "I", true)
  | 2 => ("LocalBoundsModel", "height", "I", true)
  | 3 => ("LocalBoundsModel", "samples", "[I", true)
  | 4 => ("LocalBoundsModel", "black", "[Z", true)
  | 5 => ("LocalBoundsModel", "next", "[Z", true)
  | 6 => ("LocalBoundsModel", "came", "[I", true)
  | 7 => ("LocalBoundsModel", "part", "[I", true)
  | _ => ("LocalBoundsModel", "rest", "J", false)
def tyX1 : Nat → FieldType := fun k => match k with
  | 0 => .int
  | 1 => .int
  | 2 => .int
  | 3 => .array .int
  | 4 => .array .boolean
  | 5 => .array .boolean
  | 6 => .array .int
  | 7 => .array .int
  | _ => .long
abbrev wsX10 : List Cond := u_ws RX1 TX1 9
theorem nmX1 : ∀ a, a < 9 → ∀ b, b < 9 → a ≠ b → (TX1 a).2.1 ≠ (TX1 b).2.1 := by decide +kernel
theorem tyX1_ok : ∀ k, k < 9 → parseFieldDescriptor (TX1 k).2.2.1 = some (tyX1 k) := by decide +kernel
abbrev cX1_init : ByteArray := prog_3_method_1_code
def yX1_init : MethodName := ⟨RX1, "<init>", "(II)V"⟩
abbrev cX1_thrown : ByteArray := prog_3_method_2_code
def yX1_thrown : MethodName := ⟨RX1, "thrown", "()I"⟩
abbrev cX1_isIn : ByteArray := prog_3_method_3_code
def yX1_isIn : MethodName := ⟨RX1, "isIn", "(II)Z"⟩
abbrev cX1_all : ByteArray := prog_3_method_4_code
def yX1_all : MethodName := ⟨RX1, "all", "()I"⟩
abbrev cX1_put : ByteArray := prog_3_method_5_code
def yX1_put : MethodName := ⟨RX1, "put", "(III)I"⟩
abbrev cX1_paint : ByteArray := prog_3_method_6_code
def yX1_paint : MethodName := ⟨RX1, "paint", "(II)I"⟩
abbrev cX1_blacks : ByteArray := prog_3_method_7_code
def yX1_blacks : MethodName := ⟨RX1, "blacks", "()I"⟩
abbrev cX1_global : ByteArray := prog_3_method_8_code
def yX1_global : MethodName := ⟨RX1, "global", "()I"⟩
abbrev cX1_isDark : ByteArray := prog_3_method_9_code
def yX1_isDark : MethodName := ⟨RX1, "isDark", "(IIII)Z"⟩
abbrev cX1_local : ByteArray := prog_3_method_10_code
def yX1_local : MethodName := ⟨RX1, "local", "(II)I"⟩
abbrev cX1_pass : ByteArray := prog_3_method_11_code
def yX1_pass : MethodName := ⟨RX1, "pass", "(III)V"⟩
abbrev cX1_spread : ByteArray := prog_3_method_12_code
def yX1_spread : MethodName := ⟨RX1, "spread", "(I)I"⟩
abbrev cX1_rest : ByteArray := prog_3_method_13_code
def yX1_rest : MethodName := ⟨RX1, "rest", "()J"⟩
abbrev cX1_isCells : ByteArray := prog_3_method_14_code
def yX1_isCells : MethodName := ⟨RX1, "isCells", "(I)Z"⟩
abbrev cX1_cellOf : ByteArray := prog_3_method_15_code
def yX1_cellOf : MethodName := ⟨RX1, "cellOf", "(III)I"⟩
abbrev cX1_ordered : ByteArray := prog_3_method_16_code
def yX1_ordered : MethodName := ⟨RX1, "ordered", "(I)I"⟩
abbrev cX1_cell : ByteArray := prog_3_method_17_code
def yX1_cell : MethodName := ⟨RX1, "cell", "(III)I"⟩
abbrev cX1_touchesBlack : ByteArray := prog_3_method_18_code
def yX1_touchesBlack : MethodName := ⟨RX1, "touchesBlack", "(II)Z"⟩
abbrev cX1_join : ByteArray := prog_3_method_19_code
def yX1_join : MethodName := ⟨RX1, "join", "(II)I"⟩
abbrev cX1_lesser : ByteArray := prog_3_method_20_code
def yX1_lesser : MethodName := ⟨RX1, "lesser", "(IIIZ)I"⟩
abbrev cX1_findParts : ByteArray := prog_3_method_21_code
def yX1_findParts : MethodName := ⟨RX1, "findParts", "(Z)V"⟩
abbrev cX1_turnSpecks : ByteArray := prog_3_method_22_code
def yX1_turnSpecks : MethodName := ⟨RX1, "turnSpecks", "(ZI)I"⟩
abbrev cX1_clean : ByteArray := prog_3_method_23_code
def yX1_clean : MethodName := ⟨RX1, "clean", "(I)I"⟩
abbrev cX1_isBlackAt : ByteArray := prog_3_method_24_code
def yX1_isBlackAt : MethodName := ⟨RX1, "isBlackAt", "(II)Z"⟩
abbrev cX1_edges : ByteArray := prog_3_method_25_code
def yX1_edges : MethodName := ⟨RX1, "edges", "()I"⟩
abbrev cX1_invert : ByteArray := prog_3_method_26_code
def yX1_invert : MethodName := ⟨RX1, "invert", "()I"⟩
abbrev cX1_at : ByteArray := prog_3_method_27_code
def yX1_at : MethodName := ⟨RX1, "at", "(II)Z"⟩
abbrev cX1_sum : ByteArray := prog_3_method_28_code
def yX1_sum : MethodName := ⟨RX1, "sum", "(IIIIZ)J"⟩
abbrev cX1_parts : ByteArray := prog_3_method_29_code
def yX1_parts : MethodName := ⟨RX1, "parts", "()I"⟩
abbrev cX1_different : ByteArray := prog_3_method_30_code
def yX1_different : MethodName := ⟨RX1, "different", "()I"⟩
abbrev cX1_told : ByteArray := prog_3_method_31_code
def yX1_told : MethodName := ⟨RX1, "told", "(I)I"⟩
abbrev cX1_clear : ByteArray := prog_3_method_32_code
def yX1_clear : MethodName := ⟨RX1, "clear", "()V"⟩
def RJx145de : String := "java/io/Serializable"
def TJx145de : u_T := fun k => match k with
  | _ => ("", "", "", false)
def tyJx145de : Nat → FieldType := fun k => match k with
  | _ => .int
abbrev wsJx145de0 : List Cond := u_ws RJx145de TJx145de 0
theorem nmJx145de : ∀ a, a < 0 → ∀ b, b < 0 → a ≠ b → (TJx145de a).2.1 ≠ (TJx145de b).2.1 := by decide +kernel
theorem tyJx145de_ok : ∀ k, k < 0 → parseFieldDescriptor (TJx145de k).2.2.1 = some (tyJx145de k) := by decide +kernel
def RJ9 : String := "java/lang/Math"
def TJ9 : u_T := fun k => match k with
  | _ => ("", "", "", false)
def tyJ9 : Nat → FieldType := fun k => match k with
  | _ => .int
abbrev wsJ90 : List Cond := u_ws RJ9 TJ9 0
theorem nmJ9 : ∀ a, a < 0 → ∀ b, b < 0 → a ≠ b → (TJ9 a).2.1 ≠ (TJ9 b).2.1 := by decide +kernel
theorem tyJ9_ok : ∀ k, k < 0 → parseFieldDescriptor (TJ9 k).2.2.1 = some (tyJ9 k) := by decide +kernel
abbrev cJ9_floorMod_7cf53 : ByteArray := prog_7_method_50_code
def yJ9_floorMod_7cf53 : MethodName := ⟨RJ9, "floorMod", "(II)I"⟩
abbrev cJ9_max_7cf53 : ByteArray := prog_7_method_65_code
def yJ9_max_7cf53 : MethodName := ⟨RJ9, "max", "(II)I"⟩
abbrev cJ9_min_7cf53 : ByteArray := prog_7_method_69_code
def yJ9_min_7cf53 : MethodName := ⟨RJ9, "min", "(II)I"⟩
def RJ0 : String := "java/lang/String"
def TJ0 : u_T := fun k => match k with
  | _ => ("", "", "", false)
def tyJ0 : Nat → FieldType := fun k => match k with
  | _ => .int
abbrev wsJ00 : List Cond := u_ws RJ0 TJ0 0
theorem nmJ0 : ∀ a, a < 0 → ∀ b, b < 0 → a ≠ b → (TJ0 a).2.1 ≠ (TJ0 b).2.1 := by decide +kernel
theorem tyJ0_ok : ∀ k, k < 0 → parseFieldDescriptor (TJ0 k).2.2.1 = some (tyJ0 k) := by decide +kernel
def RJ7 : String := "java/util/Arrays"
def TJ7 : u_T := fun k => match k with
  | _ => ("", "", "", false)
def tyJ7 : Nat → FieldType := fun k => match k with
  | _ => .int
abbrev wsJ70 : List Cond := u_ws RJ7 TJ7 0
theorem nmJ7 : ∀ a, a < 0 → ∀ b, b < 0 → a ≠ b → (TJ7 a).2.1 ≠ (TJ7 b).2.1 := by decide +kernel
theorem tyJ7_ok : ∀ k, k < 0 → parseFieldDescriptor (TJ7 k).2.2.1 = some (tyJ7 k) := by decide +kernel
abbrev cJ7_fill_53178 : ByteArray := prog_11_method_103_code
def yJ7_fill_53178 : MethodName := ⟨RJ7, "fill", "([II)V"⟩
def RL : String := "LocalBoundsLaw"
abbrev cL_cell : ByteArray := method_2_code
def yL_cell : MethodName := ⟨RL, "cell", "([II)I"⟩
abbrev cL_put : ByteArray := method_3_code
def yL_put : MethodName := ⟨RL, "put", "(LLocalBounds;III[J)I"⟩
abbrev cL_local : ByteArray := method_4_code
def yL_local : MethodName := ⟨RL, "local", "(LLocalBounds;II[J)I"⟩
abbrev cL_spread : ByteArray := method_5_code
def yL_spread : MethodName := ⟨RL, "spread", "(LLocalBounds;I[J)I"⟩
abbrev cL_ordered : ByteArray := method_6_code
def yL_ordered : MethodName := ⟨RL, "ordered", "(LLocalBounds;I[J)I"⟩
abbrev cL_join : ByteArray := method_7_code
def yL_join : MethodName := ⟨RL, "join", "(LLocalBounds;II[J)I"⟩
abbrev cL_clean : ByteArray := method_8_code
def yL_clean : MethodName := ⟨RL, "clean", "(LLocalBounds;I[J)I"⟩
abbrev cL_at : ByteArray := method_9_code
def yL_at : MethodName := ⟨RL, "at", "(LLocalBounds;II[J)I"⟩
abbrev cL_sum : ByteArray := method_10_code
def yL_sum : MethodName := ⟨RL, "sum", "(LLocalBounds;IIIIZ[J)I"⟩
abbrev cL_cell_ : ByteArray := method_11_code
def yL_cell_ : MethodName := ⟨RL, "cell", "(LLocalBounds;III[J)I"⟩
abbrev cL_law : ByteArray := code
def yL_law : MethodName := ⟨RL, "law", "([I)Z"⟩
def wsX0_nearestSide : List Cond := .code yX0_nearestSide cX0_nearestSide 1 (some .int) :: ([.methodLink RX0 165 Lib.Math.min.name, .static Lib.Math.min.name, .initialized "java/lang/Math", .code Lib.Math.min.name Lib.Math.min.code 2 (some .int), .methodLink RX0 168 Lib.Math.max.name, .static Lib.Math.max.name, .code Lib.Math.max.name Lib.Math.max.code 2 (some .int)])
def wsX0_init_r1 : List Cond := [Cond.methodLink RX0 1 objectInit, Cond.instanceMethod objectInit, Cond.code objectInit ⟨#[0xb1]⟩ 1 none, Cond.fieldLink RX0 13 "LocalBounds" "width" "I", Cond.fieldLink RX0 17 "LocalBounds" "height" "I", Cond.fieldLink RX0 20 "LocalBounds" "count" "I", Cond.arrayClass .int, Cond.fieldLink RX0 23 "LocalBounds" "samples" "[I", Cond.arrayClass .boolean, Cond.fieldLink RX0 27 "LocalBounds" "black" "[Z", Cond.fieldLink RX0 31 "LocalBounds" "ofGrey" "[I", Cond.fieldLink RX0 34 "LocalBounds" "came" "[I", Cond.arrayClass .long, Cond.fieldLink RX0 37 "LocalBounds" "sums" "[J", Cond.fieldLink RX0 41 "LocalBounds" "squareSums" "[J", Cond.fieldLink RX0 44 "LocalBounds" "marked" "[Z", Cond.fieldLink RX0 47 "LocalBounds" "queue" "[I", Cond.methodLink RX0 7 yX0_nearestSide, Cond.static yX0_nearestSide, Cond.initialized RX0, Cond.code yX0_nearestSide cX0_nearestSide 1 (some .int), Cond.methodLink RX0 165 Lib.Math.min.name, Cond.static Lib.Math.min.name, Cond.initialized "java/lang/Math"]
def wsX0_init_r2 : List Cond := [Cond.code Lib.Math.min.name Lib.Math.min.code 2 (some .int), Cond.methodLink RX0 168 Lib.Math.max.name, Cond.static Lib.Math.max.name, Cond.code Lib.Math.max.name Lib.Math.max.code 2 (some .int)]
def wsX0_init : List Cond := .code yX0_init cX0_init 3 none :: ((wsX0_init_r1 ++ wsX0_init_r2) ++ wsX00)
def wsX0_isInside : List Cond := .code yX0_isInside cX0_isInside 3 (some .boolean) :: ([.fieldLink RX0 13 "LocalBounds" "width" "I", .fieldLink RX0 17 "LocalBounds" "height" "I"] ++ wsX00)
def wsX0_placeOf : List Cond := .code yX0_placeOf cX0_placeOf 3 (some .int) :: ([.fieldLink RX0 13 "LocalBounds" "width" "I"] ++ wsX00)
def wsX0_put : List Cond := .code yX0_put cX0_put 6 (some .int) :: ([.classLink RX0 54 "java/lang/IndexOutOfBoundsException", .initialized "java/lang/IndexOutOfBoundsException", .classLink RX0 61 "java/lang/IllegalArgumentException", .initialized "java/lang/IllegalArgumentException", .fieldLink RX0 23 "LocalBounds" "samples" "[I", .methodLink RX0 50 yX0_isInside, .instanceMethod yX0_isInside, .selects RX0 yX0_isInside yX0_isInside, .initialized RX0, .code yX0_isInside cX0_isInside 3 (some .boolean), .fieldLink RX0 13 "LocalBounds" "width" "I", .fieldLink RX0 17 "LocalBounds" "height" "I", .methodLink RX0 66 yX0_placeOf, .instanceMethod yX0_placeOf, .selects RX0 yX0_placeOf yX0_placeOf, .code yX0_placeOf cX0_placeOf 3 (some .int)] ++ wsX00 ++ (vx_atS RX0 58 "java/lang/IndexOutOfBoundsException" ["java/lang/RuntimeException", "java/lang/Exception"]).filter goodWord ++ (vx_atS RX0 65 "java/lang/IllegalArgumentException" ["java/lang/RuntimeException", "java/lang/Exception"]).filter goodWord)
def wsJ9_floorMod_7cf53 : List Cond := .code yJ9_floorMod_7cf53 cJ9_floorMod_7cf53 3 (some .int) :: ([])
def wsX0_paint : List Cond := .code yX0_paint cX0_paint 7 (some .int) :: ([.fieldLink RX0 20 "LocalBounds" "count" "I", .fieldLink RX0 23 "LocalBounds" "samples" "[I", .methodLink RX0 70 yJ9_floorMod_7cf53, .static yJ9_floorMod_7cf53, .initialized RJ9, .code yJ9_floorMod_7cf53 cJ9_floorMod_7cf53 3 (some .int)] ++ wsX00)
def wsJ7_fill_53178 : List Cond := .code yJ7_fill_53178 cJ7_fill_53178 4 none :: ([])
def wsX0_fillOfGrey : List Cond := .code yX0_fillOfGrey cX0_fillOfGrey 3 none :: ([.fieldLink RX0 31 "LocalBounds" "ofGrey" "[I", .fieldLink RX0 20 "LocalBounds" "count" "I", .fieldLink RX0 23 "LocalBounds" "samples" "[I", .methodLink RX0 95 yJ7_fill_53178, .static yJ7_fill_53178, .initialized RJ7, .code yJ7_fill_53178 cJ7_fill_53178 4 none] ++ wsX00)
def wsX0_sumOfSamples : List Cond := .code yX0_sumOfSamples cX0_sumOfSamples 4 (some .long) :: ([.fieldLink RX0 20 "LocalBounds" "count" "I", .fieldLink RX0 23 "LocalBounds" "samples" "[I"] ++ wsX00)
def wsX0_bestBound : List Cond := .code yX0_bestBound cX0_bestBound 21 (some .int) :: ([.fieldLink RX0 23 "LocalBounds" "samples" "[I", .fieldLink RX0 31 "LocalBounds" "ofGrey" "[I", .fieldLink RX0 20 "LocalBounds" "count" "I", .methodLink RX0 171 yX0_fillOfGrey, .instanceMethod yX0_fillOfGrey, .selects RX0 yX0_fillOfGrey yX0_fillOfGrey, .initialized RX0, .code yX0_fillOfGrey cX0_fillOfGrey 3 none, .methodLink RX0 95 yJ7_fill_53178, .static yJ7_fill_53178, .initialized RJ7, .code yJ7_fill_53178 cJ7_fill_53178 4 none, .methodLink RX0 174 yX0_sumOfSamples, .instanceMethod yX0_sumOfSamples, .selects RX0 yX0_sumOfSamples yX0_sumOfSamples, .code yX0_sumOfSamples cX0_sumOfSamples 4 (some .long)] ++ wsX00)
def wsX0_global : List Cond := .code yX0_global cX0_global 3 (some .int) :: ([.fieldLink RX0 20 "LocalBounds" "count" "I", .fieldLink RX0 27 "LocalBounds" "black" "[Z", .fieldLink RX0 23 "LocalBounds" "samples" "[I", .methodLink RX0 75 yX0_bestBound, .instanceMethod yX0_bestBound, .selects RX0 yX0_bestBound yX0_bestBound, .initialized RX0, .code yX0_bestBound cX0_bestBound 21 (some .int), .fieldLink RX0 31 "LocalBounds" "ofGrey" "[I", .methodLink RX0 171 yX0_fillOfGrey, .instanceMethod yX0_fillOfGrey, .selects RX0 yX0_fillOfGrey yX0_fillOfGrey, .code yX0_fillOfGrey cX0_fillOfGrey 3 none, .methodLink RX0 95 yJ7_fill_53178, .static yJ7_fill_53178, .initialized RJ7, .code yJ7_fill_53178 cJ7_fill_53178 4 none, .methodLink RX0 174 yX0_sumOfSamples, .instanceMethod yX0_sumOfSamples, .selects RX0 yX0_sumOfSamples yX0_sumOfSamples, .code yX0_sumOfSamples cX0_sumOfSamples 4 (some .long)] ++ wsX00)
def wsX0_cornerOf : List Cond := .code yX0_cornerOf cX0_cornerOf 3 (some .int) :: ([.fieldLink RX0 13 "LocalBounds" "width" "I"] ++ wsX00)
def wsX0_fillSums : List Cond := .code yX0_fillSums cX0_fillSums 11 none :: ([.fieldLink RX0 17 "LocalBounds" "height" "I", .fieldLink RX0 13 "LocalBounds" "width" "I", .fieldLink RX0 23 "LocalBounds" "samples" "[I", .fieldLink RX0 37 "LocalBounds" "sums" "[J", .fieldLink RX0 41 "LocalBounds" "squareSums" "[J", .methodLink RX0 66 yX0_placeOf, .instanceMethod yX0_placeOf, .selects RX0 yX0_placeOf yX0_placeOf, .initialized RX0, .code yX0_placeOf cX0_placeOf 3 (some .int), .methodLink RX0 178 yX0_cornerOf, .instanceMethod yX0_cornerOf, .selects RX0 yX0_cornerOf yX0_cornerOf, .code yX0_cornerOf cX0_cornerOf 3 (some .int)] ++ wsX00)
def wsX0_sumBetween : List Cond := .code yX0_sumBetween cX0_sumBetween 10 (some .long) :: ([.methodLink RX0 178 yX0_cornerOf, .instanceMethod yX0_cornerOf, .selects RX0 yX0_cornerOf yX0_cornerOf, .initialized RX0, .code yX0_cornerOf cX0_cornerOf 3 (some .int), .fieldLink RX0 13 "LocalBounds" "width" "I"] ++ wsX00)
def wsX0_isDarkInWindow_r1 : List Cond := [Cond.methodLink RX0 168 Lib.Math.max.name, Cond.static Lib.Math.max.name, Cond.initialized "java/lang/Math", Cond.code Lib.Math.max.name Lib.Math.max.code 2 (some .int), Cond.fieldLink RX0 13 "LocalBounds" "width" "I", Cond.methodLink RX0 165 Lib.Math.min.name, Cond.static Lib.Math.min.name, Cond.code Lib.Math.min.name Lib.Math.min.code 2 (some .int), Cond.fieldLink RX0 17 "LocalBounds" "height" "I", Cond.fieldLink RX0 37 "LocalBounds" "sums" "[J", Cond.fieldLink RX0 41 "LocalBounds" "squareSums" "[J", Cond.fieldLink RX0 23 "LocalBounds" "samples" "[I", Cond.constantLong RX0 181 (256), Cond.methodLink RX0 153 yX0_sumBetween, Cond.instanceMethod yX0_sumBetween, Cond.selects RX0 yX0_sumBetween yX0_sumBetween, Cond.initialized RX0, Cond.code yX0_sumBetween cX0_sumBetween 10 (some .long), Cond.methodLink RX0 178 yX0_cornerOf, Cond.instanceMethod yX0_cornerOf, Cond.selects RX0 yX0_cornerOf yX0_cornerOf, Cond.code yX0_cornerOf cX0_cornerOf 3 (some .int), Cond.methodLink RX0 66 yX0_placeOf, Cond.instanceMethod yX0_placeOf]
def wsX0_isDarkInWindow_r2 : List Cond := [Cond.selects RX0 yX0_placeOf yX0_placeOf, Cond.code yX0_placeOf cX0_placeOf 3 (some .int)]
def wsX0_isDarkInWindow : List Cond := .code yX0_isDarkInWindow cX0_isDarkInWindow 20 (some .boolean) :: ((wsX0_isDarkInWindow_r1 ++ wsX0_isDarkInWindow_r2) ++ wsX00)
def wsX0_countBlack : List Cond := .code yX0_countBlack cX0_countBlack 3 (some .int) :: ([.fieldLink RX0 20 "LocalBounds" "count" "I", .fieldLink RX0 27 "LocalBounds" "black" "[Z"] ++ wsX00)
def wsX0_local_r1 : List Cond := [Cond.classLink RX0 61 "java/lang/IllegalArgumentException", Cond.initialized "java/lang/IllegalArgumentException", Cond.fieldLink RX0 17 "LocalBounds" "height" "I", Cond.fieldLink RX0 13 "LocalBounds" "width" "I", Cond.fieldLink RX0 27 "LocalBounds" "black" "[Z", Cond.methodLink RX0 83 yX0_fillSums, Cond.instanceMethod yX0_fillSums, Cond.selects RX0 yX0_fillSums yX0_fillSums, Cond.initialized RX0, Cond.code yX0_fillSums cX0_fillSums 11 none, Cond.fieldLink RX0 23 "LocalBounds" "samples" "[I", Cond.fieldLink RX0 37 "LocalBounds" "sums" "[J", Cond.fieldLink RX0 41 "LocalBounds" "squareSums" "[J", Cond.methodLink RX0 66 yX0_placeOf, Cond.instanceMethod yX0_placeOf, Cond.selects RX0 yX0_placeOf yX0_placeOf, Cond.code yX0_placeOf cX0_placeOf 3 (some .int), Cond.methodLink RX0 178 yX0_cornerOf, Cond.instanceMethod yX0_cornerOf, Cond.selects RX0 yX0_cornerOf yX0_cornerOf, Cond.code yX0_cornerOf cX0_cornerOf 3 (some .int), Cond.methodLink RX0 86 yX0_isDarkInWindow, Cond.instanceMethod yX0_isDarkInWindow, Cond.selects RX0 yX0_isDarkInWindow yX0_isDarkInWindow]
def wsX0_local_r2 : List Cond := [Cond.code yX0_isDarkInWindow cX0_isDarkInWindow 20 (some .boolean), Cond.methodLink RX0 168 Lib.Math.max.name, Cond.static Lib.Math.max.name, Cond.initialized "java/lang/Math", Cond.code Lib.Math.max.name Lib.Math.max.code 2 (some .int), Cond.methodLink RX0 165 Lib.Math.min.name, Cond.static Lib.Math.min.name, Cond.code Lib.Math.min.name Lib.Math.min.code 2 (some .int), Cond.constantLong RX0 181 (256), Cond.methodLink RX0 153 yX0_sumBetween, Cond.instanceMethod yX0_sumBetween, Cond.selects RX0 yX0_sumBetween yX0_sumBetween, Cond.code yX0_sumBetween cX0_sumBetween 10 (some .long), Cond.methodLink RX0 90 yX0_countBlack, Cond.instanceMethod yX0_countBlack, Cond.selects RX0 yX0_countBlack yX0_countBlack, Cond.code yX0_countBlack cX0_countBlack 3 (some .int), Cond.fieldLink RX0 20 "LocalBounds" "count" "I"]
def wsX0_local : List Cond := .code yX0_local cX0_local 6 (some .int) :: ((wsX0_local_r1 ++ wsX0_local_r2) ++ wsX00 ++ (vx_atS RX0 65 "java/lang/IllegalArgumentException" ["java/lang/RuntimeException", "java/lang/Exception"]).filter goodWord)
def wsX0_passTo : List Cond := .code yX0_passTo cX0_passTo 4 none :: ([.fieldLink RX0 34 "LocalBounds" "came" "[I", .fieldLink RX0 101 "LocalBounds" "lost" "J", .methodLink RX0 50 yX0_isInside, .instanceMethod yX0_isInside, .selects RX0 yX0_isInside yX0_isInside, .initialized RX0, .code yX0_isInside cX0_isInside 3 (some .boolean), .fieldLink RX0 13 "LocalBounds" "width" "I", .fieldLink RX0 17 "LocalBounds" "height" "I", .methodLink RX0 66 yX0_placeOf, .instanceMethod yX0_placeOf, .selects RX0 yX0_placeOf yX0_placeOf, .code yX0_placeOf cX0_placeOf 3 (some .int)] ++ wsX00)
def wsX0_spreadSample : List Cond := .code yX0_spreadSample cX0_spreadSample 11 none :: ([.fieldLink RX0 23 "LocalBounds" "samples" "[I", .fieldLink RX0 34 "LocalBounds" "came" "[I", .fieldLink RX0 27 "LocalBounds" "black" "[Z", .methodLink RX0 66 yX0_placeOf, .instanceMethod yX0_placeOf, .selects RX0 yX0_placeOf yX0_placeOf, .initialized RX0, .code yX0_placeOf cX0_placeOf 3 (some .int), .fieldLink RX0 13 "LocalBounds" "width" "I", .methodLink RX0 187 yX0_passTo, .instanceMethod yX0_passTo, .selects RX0 yX0_passTo yX0_passTo, .code yX0_passTo cX0_passTo 4 none, .fieldLink RX0 101 "LocalBounds" "lost" "J", .methodLink RX0 50 yX0_isInside, .instanceMethod yX0_isInside, .selects RX0 yX0_isInside yX0_isInside, .code yX0_isInside cX0_isInside 3 (some .boolean), .fieldLink RX0 17 "LocalBounds" "height" "I"] ++ wsX00)
def wsX0_spreadRow : List Cond := .code yX0_spreadRow cX0_spreadRow 7 none :: ([.fieldLink RX0 13 "LocalBounds" "width" "I", .methodLink RX0 183 yX0_spreadSample, .instanceMethod yX0_spreadSample, .selects RX0 yX0_spreadSample yX0_spreadSample, .initialized RX0, .code yX0_spreadSample cX0_spreadSample 11 none, .fieldLink RX0 23 "LocalBounds" "samples" "[I", .fieldLink RX0 34 "LocalBounds" "came" "[I", .fieldLink RX0 27 "LocalBounds" "black" "[Z", .methodLink RX0 66 yX0_placeOf, .instanceMethod yX0_placeOf, .selects RX0 yX0_placeOf yX0_placeOf, .code yX0_placeOf cX0_placeOf 3 (some .int), .methodLink RX0 187 yX0_passTo, .instanceMethod yX0_passTo, .selects RX0 yX0_passTo yX0_passTo, .code yX0_passTo cX0_passTo 4 none, .fieldLink RX0 101 "LocalBounds" "lost" "J", .methodLink RX0 50 yX0_isInside, .instanceMethod yX0_isInside, .selects RX0 yX0_isInside yX0_isInside, .code yX0_isInside cX0_isInside 3 (some .boolean), .fieldLink RX0 17 "LocalBounds" "height" "I"] ++ wsX00)
def wsX0_spread_r1 : List Cond := [Cond.classLink RX0 61 "java/lang/IllegalArgumentException", Cond.initialized "java/lang/IllegalArgumentException", Cond.fieldLink RX0 34 "LocalBounds" "came" "[I", Cond.fieldLink RX0 101 "LocalBounds" "lost" "J", Cond.fieldLink RX0 17 "LocalBounds" "height" "I", Cond.methodLink RX0 95 yJ7_fill_53178, Cond.static yJ7_fill_53178, Cond.initialized RJ7, Cond.code yJ7_fill_53178 cJ7_fill_53178 4 none, Cond.methodLink RX0 105 yX0_spreadRow, Cond.instanceMethod yX0_spreadRow, Cond.selects RX0 yX0_spreadRow yX0_spreadRow, Cond.initialized RX0, Cond.code yX0_spreadRow cX0_spreadRow 7 none, Cond.fieldLink RX0 13 "LocalBounds" "width" "I", Cond.methodLink RX0 183 yX0_spreadSample, Cond.instanceMethod yX0_spreadSample, Cond.selects RX0 yX0_spreadSample yX0_spreadSample, Cond.code yX0_spreadSample cX0_spreadSample 11 none, Cond.fieldLink RX0 23 "LocalBounds" "samples" "[I", Cond.fieldLink RX0 27 "LocalBounds" "black" "[Z", Cond.methodLink RX0 66 yX0_placeOf, Cond.instanceMethod yX0_placeOf, Cond.selects RX0 yX0_placeOf yX0_placeOf]
def wsX0_spread_r2 : List Cond := [Cond.code yX0_placeOf cX0_placeOf 3 (some .int), Cond.methodLink RX0 187 yX0_passTo, Cond.instanceMethod yX0_passTo, Cond.selects RX0 yX0_passTo yX0_passTo, Cond.code yX0_passTo cX0_passTo 4 none, Cond.methodLink RX0 50 yX0_isInside, Cond.instanceMethod yX0_isInside, Cond.selects RX0 yX0_isInside yX0_isInside, Cond.code yX0_isInside cX0_isInside 3 (some .boolean), Cond.methodLink RX0 90 yX0_countBlack, Cond.instanceMethod yX0_countBlack, Cond.selects RX0 yX0_countBlack yX0_countBlack, Cond.code yX0_countBlack cX0_countBlack 3 (some .int), Cond.fieldLink RX0 20 "LocalBounds" "count" "I"]
def wsX0_spread : List Cond := .code yX0_spread cX0_spread 3 (some .int) :: ((wsX0_spread_r1 ++ wsX0_spread_r2) ++ wsX00 ++ (vx_atS RX0 65 "java/lang/IllegalArgumentException" ["java/lang/RuntimeException", "java/lang/Exception"]).filter goodWord)
def wsX0_rest : List Cond := .code yX0_rest cX0_rest 1 (some .long) :: ([.fieldLink RX0 101 "LocalBounds" "lost" "J"] ++ wsX00)
def wsX0_isCells : List Cond := .code yX0_isCells cX0_isCells 1 (some .boolean) :: ([])
def wsX0_quarterNumber : List Cond := .code yX0_quarterNumber cX0_quarterNumber 2 (some .int) :: ([])
def wsX0_cellNumber : List Cond := .code yX0_cellNumber cX0_cellNumber 5 (some .int) :: ([.methodLink RX0 190 yX0_quarterNumber, .static yX0_quarterNumber, .initialized RX0, .code yX0_quarterNumber cX0_quarterNumber 2 (some .int)])
def wsX0_ordered_r1 : List Cond := [Cond.classLink RX0 61 "java/lang/IllegalArgumentException", Cond.initialized "java/lang/IllegalArgumentException", Cond.fieldLink RX0 17 "LocalBounds" "height" "I", Cond.fieldLink RX0 13 "LocalBounds" "width" "I", Cond.fieldLink RX0 27 "LocalBounds" "black" "[Z", Cond.fieldLink RX0 23 "LocalBounds" "samples" "[I", Cond.methodLink RX0 109 yX0_isCells, Cond.static yX0_isCells, Cond.initialized RX0, Cond.code yX0_isCells cX0_isCells 1 (some .boolean), Cond.methodLink RX0 66 yX0_placeOf, Cond.instanceMethod yX0_placeOf, Cond.selects RX0 yX0_placeOf yX0_placeOf, Cond.code yX0_placeOf cX0_placeOf 3 (some .int), Cond.methodLink RX0 115 yX0_cellNumber, Cond.static yX0_cellNumber, Cond.code yX0_cellNumber cX0_cellNumber 5 (some .int), Cond.methodLink RX0 190 yX0_quarterNumber, Cond.static yX0_quarterNumber, Cond.code yX0_quarterNumber cX0_quarterNumber 2 (some .int), Cond.methodLink RX0 90 yX0_countBlack, Cond.instanceMethod yX0_countBlack, Cond.selects RX0 yX0_countBlack yX0_countBlack, Cond.code yX0_countBlack cX0_countBlack 3 (some .int)]
def wsX0_ordered_r2 : List Cond := [Cond.fieldLink RX0 20 "LocalBounds" "count" "I"]
def wsX0_ordered : List Cond := .code yX0_ordered cX0_ordered 6 (some .int) :: ((wsX0_ordered_r1 ++ wsX0_ordered_r2) ++ wsX00 ++ (vx_atS RX0 65 "java/lang/IllegalArgumentException" ["java/lang/RuntimeException", "java/lang/Exception"]).filter goodWord)
def wsX0_enqueue : List Cond := .code yX0_enqueue cX0_enqueue 2 none :: ([.fieldLink RX0 121 "LocalBounds" "queued" "I", .fieldLink RX0 47 "LocalBounds" "queue" "[I"] ++ wsX00)
def wsX0_columnOf : List Cond := .code yX0_columnOf cX0_columnOf 2 (some .int) :: ([.fieldLink RX0 13 "LocalBounds" "width" "I"] ++ wsX00)
def wsX0_rowOf : List Cond := .code yX0_rowOf cX0_rowOf 2 (some .int) :: ([.fieldLink RX0 13 "LocalBounds" "width" "I"] ++ wsX00)
def wsX0_blackenUpTo : List Cond := .code yX0_blackenUpTo cX0_blackenUpTo 3 none :: ([.fieldLink RX0 27 "LocalBounds" "black" "[Z", .fieldLink RX0 23 "LocalBounds" "samples" "[I", .methodLink RX0 124 yX0_enqueue, .instanceMethod yX0_enqueue, .selects RX0 yX0_enqueue yX0_enqueue, .initialized RX0, .code yX0_enqueue cX0_enqueue 2 none, .fieldLink RX0 121 "LocalBounds" "queued" "I", .fieldLink RX0 47 "LocalBounds" "queue" "[I"] ++ wsX00)
def wsX0_blackenRound : List Cond := .code yX0_blackenRound cX0_blackenRound 6 none :: ([.methodLink RX0 50 yX0_isInside, .instanceMethod yX0_isInside, .selects RX0 yX0_isInside yX0_isInside, .initialized RX0, .code yX0_isInside cX0_isInside 3 (some .boolean), .fieldLink RX0 13 "LocalBounds" "width" "I", .fieldLink RX0 17 "LocalBounds" "height" "I", .methodLink RX0 66 yX0_placeOf, .instanceMethod yX0_placeOf, .selects RX0 yX0_placeOf yX0_placeOf, .code yX0_placeOf cX0_placeOf 3 (some .int), .methodLink RX0 194 yX0_blackenUpTo, .instanceMethod yX0_blackenUpTo, .selects RX0 yX0_blackenUpTo yX0_blackenUpTo, .code yX0_blackenUpTo cX0_blackenUpTo 3 none, .fieldLink RX0 27 "LocalBounds" "black" "[Z", .fieldLink RX0 23 "LocalBounds" "samples" "[I", .methodLink RX0 124 yX0_enqueue, .instanceMethod yX0_enqueue, .selects RX0 yX0_enqueue yX0_enqueue, .code yX0_enqueue cX0_enqueue 2 none, .fieldLink RX0 121 "LocalBounds" "queued" "I", .fieldLink RX0 47 "LocalBounds" "queue" "[I"] ++ wsX00)
def wsX0_join_r1 : List Cond := [Cond.classLink RX0 61 "java/lang/IllegalArgumentException", Cond.initialized "java/lang/IllegalArgumentException", Cond.fieldLink RX0 121 "LocalBounds" "queued" "I", Cond.fieldLink RX0 20 "LocalBounds" "count" "I", Cond.fieldLink RX0 27 "LocalBounds" "black" "[Z", Cond.fieldLink RX0 23 "LocalBounds" "samples" "[I", Cond.fieldLink RX0 47 "LocalBounds" "queue" "[I", Cond.methodLink RX0 124 yX0_enqueue, Cond.instanceMethod yX0_enqueue, Cond.selects RX0 yX0_enqueue yX0_enqueue, Cond.initialized RX0, Cond.code yX0_enqueue cX0_enqueue 2 none, Cond.methodLink RX0 128 yX0_columnOf, Cond.instanceMethod yX0_columnOf, Cond.selects RX0 yX0_columnOf yX0_columnOf, Cond.code yX0_columnOf cX0_columnOf 2 (some .int), Cond.fieldLink RX0 13 "LocalBounds" "width" "I", Cond.methodLink RX0 131 yX0_rowOf, Cond.instanceMethod yX0_rowOf, Cond.selects RX0 yX0_rowOf yX0_rowOf, Cond.code yX0_rowOf cX0_rowOf 2 (some .int), Cond.methodLink RX0 134 yX0_blackenRound, Cond.instanceMethod yX0_blackenRound, Cond.selects RX0 yX0_blackenRound yX0_blackenRound]
def wsX0_join_r2 : List Cond := [Cond.code yX0_blackenRound cX0_blackenRound 6 none, Cond.methodLink RX0 50 yX0_isInside, Cond.instanceMethod yX0_isInside, Cond.selects RX0 yX0_isInside yX0_isInside, Cond.code yX0_isInside cX0_isInside 3 (some .boolean), Cond.fieldLink RX0 17 "LocalBounds" "height" "I", Cond.methodLink RX0 66 yX0_placeOf, Cond.instanceMethod yX0_placeOf, Cond.selects RX0 yX0_placeOf yX0_placeOf, Cond.code yX0_placeOf cX0_placeOf 3 (some .int), Cond.methodLink RX0 194 yX0_blackenUpTo, Cond.instanceMethod yX0_blackenUpTo, Cond.selects RX0 yX0_blackenUpTo yX0_blackenUpTo, Cond.code yX0_blackenUpTo cX0_blackenUpTo 3 none, Cond.methodLink RX0 90 yX0_countBlack, Cond.instanceMethod yX0_countBlack, Cond.selects RX0 yX0_countBlack yX0_countBlack, Cond.code yX0_countBlack cX0_countBlack 3 (some .int)]
def wsX0_join : List Cond := .code yX0_join cX0_join 4 (some .int) :: ((wsX0_join_r1 ++ wsX0_join_r2) ++ wsX00 ++ (vx_atS RX0 65 "java/lang/IllegalArgumentException" ["java/lang/RuntimeException", "java/lang/Exception"]).filter goodWord)
def wsX0_unmarkAll : List Cond := .code yX0_unmarkAll cX0_unmarkAll 2 none :: ([.fieldLink RX0 20 "LocalBounds" "count" "I", .fieldLink RX0 44 "LocalBounds" "marked" "[Z"] ++ wsX00)
def wsX0_gather : List Cond := .code yX0_gather cX0_gather 5 none :: ([.fieldLink RX0 27 "LocalBounds" "black" "[Z", .fieldLink RX0 44 "LocalBounds" "marked" "[Z", .methodLink RX0 50 yX0_isInside, .instanceMethod yX0_isInside, .selects RX0 yX0_isInside yX0_isInside, .initialized RX0, .code yX0_isInside cX0_isInside 3 (some .boolean), .fieldLink RX0 13 "LocalBounds" "width" "I", .fieldLink RX0 17 "LocalBounds" "height" "I", .methodLink RX0 66 yX0_placeOf, .instanceMethod yX0_placeOf, .selects RX0 yX0_placeOf yX0_placeOf, .code yX0_placeOf cX0_placeOf 3 (some .int), .methodLink RX0 124 yX0_enqueue, .instanceMethod yX0_enqueue, .selects RX0 yX0_enqueue yX0_enqueue, .code yX0_enqueue cX0_enqueue 2 none, .fieldLink RX0 121 "LocalBounds" "queued" "I", .fieldLink RX0 47 "LocalBounds" "queue" "[I"] ++ wsX00)
def wsX0_gatherPart_r1 : List Cond := [Cond.fieldLink RX0 121 "LocalBounds" "queued" "I", Cond.fieldLink RX0 44 "LocalBounds" "marked" "[Z", Cond.fieldLink RX0 20 "LocalBounds" "count" "I", Cond.fieldLink RX0 47 "LocalBounds" "queue" "[I", Cond.methodLink RX0 124 yX0_enqueue, Cond.instanceMethod yX0_enqueue, Cond.selects RX0 yX0_enqueue yX0_enqueue, Cond.initialized RX0, Cond.code yX0_enqueue cX0_enqueue 2 none, Cond.methodLink RX0 128 yX0_columnOf, Cond.instanceMethod yX0_columnOf, Cond.selects RX0 yX0_columnOf yX0_columnOf, Cond.code yX0_columnOf cX0_columnOf 2 (some .int), Cond.fieldLink RX0 13 "LocalBounds" "width" "I", Cond.methodLink RX0 131 yX0_rowOf, Cond.instanceMethod yX0_rowOf, Cond.selects RX0 yX0_rowOf yX0_rowOf, Cond.code yX0_rowOf cX0_rowOf 2 (some .int), Cond.methodLink RX0 197 yX0_gather, Cond.instanceMethod yX0_gather, Cond.selects RX0 yX0_gather yX0_gather, Cond.code yX0_gather cX0_gather 5 none, Cond.fieldLink RX0 27 "LocalBounds" "black" "[Z", Cond.methodLink RX0 50 yX0_isInside]
def wsX0_gatherPart_r2 : List Cond := [Cond.instanceMethod yX0_isInside, Cond.selects RX0 yX0_isInside yX0_isInside, Cond.code yX0_isInside cX0_isInside 3 (some .boolean), Cond.fieldLink RX0 17 "LocalBounds" "height" "I", Cond.methodLink RX0 66 yX0_placeOf, Cond.instanceMethod yX0_placeOf, Cond.selects RX0 yX0_placeOf yX0_placeOf, Cond.code yX0_placeOf cX0_placeOf 3 (some .int)]
def wsX0_gatherPart : List Cond := .code yX0_gatherPart cX0_gatherPart 6 none :: ((wsX0_gatherPart_r1 ++ wsX0_gatherPart_r2) ++ wsX00)
def wsX0_queuedComeToEdge : List Cond := .code yX0_queuedComeToEdge cX0_queuedComeToEdge 4 (some .boolean) :: ([.fieldLink RX0 20 "LocalBounds" "count" "I", .fieldLink RX0 121 "LocalBounds" "queued" "I", .fieldLink RX0 47 "LocalBounds" "queue" "[I", .fieldLink RX0 13 "LocalBounds" "width" "I", .fieldLink RX0 17 "LocalBounds" "height" "I", .methodLink RX0 128 yX0_columnOf, .instanceMethod yX0_columnOf, .selects RX0 yX0_columnOf yX0_columnOf, .initialized RX0, .code yX0_columnOf cX0_columnOf 2 (some .int), .methodLink RX0 131 yX0_rowOf, .instanceMethod yX0_rowOf, .selects RX0 yX0_rowOf yX0_rowOf, .code yX0_rowOf cX0_rowOf 2 (some .int)] ++ wsX00)
def wsX0_isSpeck : List Cond := .code yX0_isSpeck cX0_isSpeck 3 (some .boolean) :: ([.fieldLink RX0 121 "LocalBounds" "queued" "I", .methodLink RX0 216 yX0_queuedComeToEdge, .instanceMethod yX0_queuedComeToEdge, .selects RX0 yX0_queuedComeToEdge yX0_queuedComeToEdge, .initialized RX0, .code yX0_queuedComeToEdge cX0_queuedComeToEdge 4 (some .boolean), .fieldLink RX0 20 "LocalBounds" "count" "I", .fieldLink RX0 47 "LocalBounds" "queue" "[I", .fieldLink RX0 13 "LocalBounds" "width" "I", .fieldLink RX0 17 "LocalBounds" "height" "I", .methodLink RX0 128 yX0_columnOf, .instanceMethod yX0_columnOf, .selects RX0 yX0_columnOf yX0_columnOf, .code yX0_columnOf cX0_columnOf 2 (some .int), .methodLink RX0 131 yX0_rowOf, .instanceMethod yX0_rowOf, .selects RX0 yX0_rowOf yX0_rowOf, .code yX0_rowOf cX0_rowOf 2 (some .int)] ++ wsX00)
def wsX0_turnQueued : List Cond := .code yX0_turnQueued cX0_turnQueued 3 (some .int) :: ([.fieldLink RX0 20 "LocalBounds" "count" "I", .fieldLink RX0 121 "LocalBounds" "queued" "I", .fieldLink RX0 27 "LocalBounds" "black" "[Z", .fieldLink RX0 47 "LocalBounds" "queue" "[I"] ++ wsX00)
def wsX0_turnSpecks_r1 : List Cond := [Cond.fieldLink RX0 20 "LocalBounds" "count" "I", Cond.fieldLink RX0 27 "LocalBounds" "black" "[Z", Cond.fieldLink RX0 44 "LocalBounds" "marked" "[Z", Cond.methodLink RX0 201 yX0_unmarkAll, Cond.instanceMethod yX0_unmarkAll, Cond.selects RX0 yX0_unmarkAll yX0_unmarkAll, Cond.initialized RX0, Cond.code yX0_unmarkAll cX0_unmarkAll 2 none, Cond.methodLink RX0 204 yX0_gatherPart, Cond.instanceMethod yX0_gatherPart, Cond.selects RX0 yX0_gatherPart yX0_gatherPart, Cond.code yX0_gatherPart cX0_gatherPart 6 none, Cond.fieldLink RX0 121 "LocalBounds" "queued" "I", Cond.fieldLink RX0 47 "LocalBounds" "queue" "[I", Cond.methodLink RX0 124 yX0_enqueue, Cond.instanceMethod yX0_enqueue, Cond.selects RX0 yX0_enqueue yX0_enqueue, Cond.code yX0_enqueue cX0_enqueue 2 none, Cond.methodLink RX0 128 yX0_columnOf, Cond.instanceMethod yX0_columnOf, Cond.selects RX0 yX0_columnOf yX0_columnOf, Cond.code yX0_columnOf cX0_columnOf 2 (some .int), Cond.fieldLink RX0 13 "LocalBounds" "width" "I", Cond.methodLink RX0 131 yX0_rowOf]
def wsX0_turnSpecks_r2 : List Cond := [Cond.instanceMethod yX0_rowOf, Cond.selects RX0 yX0_rowOf yX0_rowOf, Cond.code yX0_rowOf cX0_rowOf 2 (some .int), Cond.methodLink RX0 197 yX0_gather, Cond.instanceMethod yX0_gather, Cond.selects RX0 yX0_gather yX0_gather, Cond.code yX0_gather cX0_gather 5 none, Cond.methodLink RX0 50 yX0_isInside, Cond.instanceMethod yX0_isInside, Cond.selects RX0 yX0_isInside yX0_isInside, Cond.code yX0_isInside cX0_isInside 3 (some .boolean), Cond.fieldLink RX0 17 "LocalBounds" "height" "I", Cond.methodLink RX0 66 yX0_placeOf, Cond.instanceMethod yX0_placeOf, Cond.selects RX0 yX0_placeOf yX0_placeOf, Cond.code yX0_placeOf cX0_placeOf 3 (some .int), Cond.methodLink RX0 208 yX0_isSpeck, Cond.instanceMethod yX0_isSpeck, Cond.selects RX0 yX0_isSpeck yX0_isSpeck, Cond.code yX0_isSpeck cX0_isSpeck 3 (some .boolean), Cond.methodLink RX0 216 yX0_queuedComeToEdge, Cond.instanceMethod yX0_queuedComeToEdge, Cond.selects RX0 yX0_queuedComeToEdge yX0_queuedComeToEdge, Cond.code yX0_queuedComeToEdge cX0_queuedComeToEdge 4 (some .boolean)]
def wsX0_turnSpecks_r3 : List Cond := [Cond.methodLink RX0 212 yX0_turnQueued, Cond.instanceMethod yX0_turnQueued, Cond.selects RX0 yX0_turnQueued yX0_turnQueued, Cond.code yX0_turnQueued cX0_turnQueued 3 (some .int)]
def wsX0_turnSpecks : List Cond := .code yX0_turnSpecks cX0_turnSpecks 5 (some .int) :: ((wsX0_turnSpecks_r1 ++ (wsX0_turnSpecks_r2 ++ wsX0_turnSpecks_r3)) ++ wsX00)
def wsX0_clean_r1 : List Cond := [Cond.classLink RX0 61 "java/lang/IllegalArgumentException", Cond.initialized "java/lang/IllegalArgumentException", Cond.methodLink RX0 140 yX0_turnSpecks, Cond.instanceMethod yX0_turnSpecks, Cond.selects RX0 yX0_turnSpecks yX0_turnSpecks, Cond.initialized RX0, Cond.code yX0_turnSpecks cX0_turnSpecks 5 (some .int), Cond.fieldLink RX0 20 "LocalBounds" "count" "I", Cond.fieldLink RX0 27 "LocalBounds" "black" "[Z", Cond.fieldLink RX0 44 "LocalBounds" "marked" "[Z", Cond.methodLink RX0 201 yX0_unmarkAll, Cond.instanceMethod yX0_unmarkAll, Cond.selects RX0 yX0_unmarkAll yX0_unmarkAll, Cond.code yX0_unmarkAll cX0_unmarkAll 2 none, Cond.methodLink RX0 204 yX0_gatherPart, Cond.instanceMethod yX0_gatherPart, Cond.selects RX0 yX0_gatherPart yX0_gatherPart, Cond.code yX0_gatherPart cX0_gatherPart 6 none, Cond.fieldLink RX0 121 "LocalBounds" "queued" "I", Cond.fieldLink RX0 47 "LocalBounds" "queue" "[I", Cond.methodLink RX0 124 yX0_enqueue, Cond.instanceMethod yX0_enqueue, Cond.selects RX0 yX0_enqueue yX0_enqueue, Cond.code yX0_enqueue cX0_enqueue 2 none]
def wsX0_clean_r2 : List Cond := [Cond.methodLink RX0 128 yX0_columnOf, Cond.instanceMethod yX0_columnOf, Cond.selects RX0 yX0_columnOf yX0_columnOf, Cond.code yX0_columnOf cX0_columnOf 2 (some .int), Cond.fieldLink RX0 13 "LocalBounds" "width" "I", Cond.methodLink RX0 131 yX0_rowOf, Cond.instanceMethod yX0_rowOf, Cond.selects RX0 yX0_rowOf yX0_rowOf, Cond.code yX0_rowOf cX0_rowOf 2 (some .int), Cond.methodLink RX0 197 yX0_gather, Cond.instanceMethod yX0_gather, Cond.selects RX0 yX0_gather yX0_gather, Cond.code yX0_gather cX0_gather 5 none, Cond.methodLink RX0 50 yX0_isInside, Cond.instanceMethod yX0_isInside, Cond.selects RX0 yX0_isInside yX0_isInside, Cond.code yX0_isInside cX0_isInside 3 (some .boolean), Cond.fieldLink RX0 17 "LocalBounds" "height" "I", Cond.methodLink RX0 66 yX0_placeOf, Cond.instanceMethod yX0_placeOf, Cond.selects RX0 yX0_placeOf yX0_placeOf, Cond.code yX0_placeOf cX0_placeOf 3 (some .int), Cond.methodLink RX0 208 yX0_isSpeck, Cond.instanceMethod yX0_isSpeck]
def wsX0_clean_r3 : List Cond := [Cond.selects RX0 yX0_isSpeck yX0_isSpeck, Cond.code yX0_isSpeck cX0_isSpeck 3 (some .boolean), Cond.methodLink RX0 216 yX0_queuedComeToEdge, Cond.instanceMethod yX0_queuedComeToEdge, Cond.selects RX0 yX0_queuedComeToEdge yX0_queuedComeToEdge, Cond.code yX0_queuedComeToEdge cX0_queuedComeToEdge 4 (some .boolean), Cond.methodLink RX0 212 yX0_turnQueued, Cond.instanceMethod yX0_turnQueued, Cond.selects RX0 yX0_turnQueued yX0_turnQueued, Cond.code yX0_turnQueued cX0_turnQueued 3 (some .int)]
def wsX0_clean : List Cond := .code yX0_clean cX0_clean 4 (some .int) :: ((wsX0_clean_r1 ++ (wsX0_clean_r2 ++ wsX0_clean_r3)) ++ wsX00 ++ (vx_atS RX0 65 "java/lang/IllegalArgumentException" ["java/lang/RuntimeException", "java/lang/Exception"]).filter goodWord)
def wsX0_isBlack : List Cond := .code yX0_isBlack cX0_isBlack 3 (some .boolean) :: ([.fieldLink RX0 27 "LocalBounds" "black" "[Z", .methodLink RX0 50 yX0_isInside, .instanceMethod yX0_isInside, .selects RX0 yX0_isInside yX0_isInside, .initialized RX0, .code yX0_isInside cX0_isInside 3 (some .boolean), .fieldLink RX0 13 "LocalBounds" "width" "I", .fieldLink RX0 17 "LocalBounds" "height" "I", .methodLink RX0 66 yX0_placeOf, .instanceMethod yX0_placeOf, .selects RX0 yX0_placeOf yX0_placeOf, .code yX0_placeOf cX0_placeOf 3 (some .int)] ++ wsX00)
def wsX0_isEdge : List Cond := .code yX0_isEdge cX0_isEdge 3 (some .boolean) :: ([.methodLink RX0 220 yX0_isBlack, .instanceMethod yX0_isBlack, .selects RX0 yX0_isBlack yX0_isBlack, .initialized RX0, .code yX0_isBlack cX0_isBlack 3 (some .boolean), .fieldLink RX0 27 "LocalBounds" "black" "[Z", .methodLink RX0 50 yX0_isInside, .instanceMethod yX0_isInside, .selects RX0 yX0_isInside yX0_isInside, .code yX0_isInside cX0_isInside 3 (some .boolean), .fieldLink RX0 13 "LocalBounds" "width" "I", .fieldLink RX0 17 "LocalBounds" "height" "I", .methodLink RX0 66 yX0_placeOf, .instanceMethod yX0_placeOf, .selects RX0 yX0_placeOf yX0_placeOf, .code yX0_placeOf cX0_placeOf 3 (some .int)] ++ wsX00)
def wsX0_edges_r1 : List Cond := [Cond.fieldLink RX0 17 "LocalBounds" "height" "I", Cond.fieldLink RX0 13 "LocalBounds" "width" "I", Cond.fieldLink RX0 44 "LocalBounds" "marked" "[Z", Cond.fieldLink RX0 20 "LocalBounds" "count" "I", Cond.fieldLink RX0 27 "LocalBounds" "black" "[Z", Cond.methodLink RX0 66 yX0_placeOf, Cond.instanceMethod yX0_placeOf, Cond.selects RX0 yX0_placeOf yX0_placeOf, Cond.initialized RX0, Cond.code yX0_placeOf cX0_placeOf 3 (some .int), Cond.methodLink RX0 144 yX0_isEdge, Cond.instanceMethod yX0_isEdge, Cond.selects RX0 yX0_isEdge yX0_isEdge, Cond.code yX0_isEdge cX0_isEdge 3 (some .boolean), Cond.methodLink RX0 220 yX0_isBlack, Cond.instanceMethod yX0_isBlack, Cond.selects RX0 yX0_isBlack yX0_isBlack, Cond.code yX0_isBlack cX0_isBlack 3 (some .boolean), Cond.methodLink RX0 50 yX0_isInside, Cond.instanceMethod yX0_isInside, Cond.selects RX0 yX0_isInside yX0_isInside, Cond.code yX0_isInside cX0_isInside 3 (some .boolean), Cond.methodLink RX0 90 yX0_countBlack, Cond.instanceMethod yX0_countBlack]
def wsX0_edges_r2 : List Cond := [Cond.selects RX0 yX0_countBlack yX0_countBlack, Cond.code yX0_countBlack cX0_countBlack 3 (some .int)]
def wsX0_edges : List Cond := .code yX0_edges cX0_edges 3 (some .int) :: ((wsX0_edges_r1 ++ wsX0_edges_r2) ++ wsX00)
def wsX0_invert : List Cond := .code yX0_invert cX0_invert 2 (some .int) :: ([.fieldLink RX0 20 "LocalBounds" "count" "I", .fieldLink RX0 27 "LocalBounds" "black" "[Z", .methodLink RX0 90 yX0_countBlack, .instanceMethod yX0_countBlack, .selects RX0 yX0_countBlack yX0_countBlack, .initialized RX0, .code yX0_countBlack cX0_countBlack 3 (some .int)] ++ wsX00)
def wsX0_at : List Cond := .code yX0_at cX0_at 3 (some .boolean) :: ([.classLink RX0 54 "java/lang/IndexOutOfBoundsException", .initialized "java/lang/IndexOutOfBoundsException", .fieldLink RX0 27 "LocalBounds" "black" "[Z", .methodLink RX0 50 yX0_isInside, .instanceMethod yX0_isInside, .selects RX0 yX0_isInside yX0_isInside, .initialized RX0, .code yX0_isInside cX0_isInside 3 (some .boolean), .fieldLink RX0 13 "LocalBounds" "width" "I", .fieldLink RX0 17 "LocalBounds" "height" "I", .methodLink RX0 66 yX0_placeOf, .instanceMethod yX0_placeOf, .selects RX0 yX0_placeOf yX0_placeOf, .code yX0_placeOf cX0_placeOf 3 (some .int)] ++ wsX00 ++ (vx_atS RX0 58 "java/lang/IndexOutOfBoundsException" ["java/lang/RuntimeException", "java/lang/Exception"]).filter goodWord)
def wsX0_isPart : List Cond := .code yX0_isPart cX0_isPart 3 (some .boolean) :: ([])
def wsX0_sum_r1 : List Cond := [Cond.classLink RX0 61 "java/lang/IllegalArgumentException", Cond.initialized "java/lang/IllegalArgumentException", Cond.fieldLink RX0 13 "LocalBounds" "width" "I", Cond.fieldLink RX0 17 "LocalBounds" "height" "I", Cond.fieldLink RX0 41 "LocalBounds" "squareSums" "[J", Cond.fieldLink RX0 37 "LocalBounds" "sums" "[J", Cond.methodLink RX0 147 yX0_isPart, Cond.static yX0_isPart, Cond.initialized RX0, Cond.code yX0_isPart cX0_isPart 3 (some .boolean), Cond.methodLink RX0 83 yX0_fillSums, Cond.instanceMethod yX0_fillSums, Cond.selects RX0 yX0_fillSums yX0_fillSums, Cond.code yX0_fillSums cX0_fillSums 11 none, Cond.fieldLink RX0 23 "LocalBounds" "samples" "[I", Cond.methodLink RX0 66 yX0_placeOf, Cond.instanceMethod yX0_placeOf, Cond.selects RX0 yX0_placeOf yX0_placeOf, Cond.code yX0_placeOf cX0_placeOf 3 (some .int), Cond.methodLink RX0 178 yX0_cornerOf, Cond.instanceMethod yX0_cornerOf, Cond.selects RX0 yX0_cornerOf yX0_cornerOf, Cond.code yX0_cornerOf cX0_cornerOf 3 (some .int), Cond.methodLink RX0 153 yX0_sumBetween]
def wsX0_sum_r2 : List Cond := [Cond.instanceMethod yX0_sumBetween, Cond.selects RX0 yX0_sumBetween yX0_sumBetween, Cond.code yX0_sumBetween cX0_sumBetween 10 (some .long)]
def wsX0_sum : List Cond := .code yX0_sum cX0_sum 6 (some .long) :: ((wsX0_sum_r1 ++ wsX0_sum_r2) ++ wsX00 ++ (vx_atS RX0 65 "java/lang/IllegalArgumentException" ["java/lang/RuntimeException", "java/lang/Exception"]).filter goodWord)
def wsX0_cell : List Cond := .code yX0_cell cX0_cell 4 (some .int) :: ([.classLink RX0 61 "java/lang/IllegalArgumentException", .initialized "java/lang/IllegalArgumentException", .methodLink RX0 109 yX0_isCells, .static yX0_isCells, .initialized RX0, .code yX0_isCells cX0_isCells 1 (some .boolean), .methodLink RX0 115 yX0_cellNumber, .static yX0_cellNumber, .code yX0_cellNumber cX0_cellNumber 5 (some .int), .methodLink RX0 190 yX0_quarterNumber, .static yX0_quarterNumber, .code yX0_quarterNumber cX0_quarterNumber 2 (some .int)] ++ (vx_atS RX0 65 "java/lang/IllegalArgumentException" ["java/lang/RuntimeException", "java/lang/Exception"]).filter goodWord)
def wsX0_countBlackParts_r1 : List Cond := [Cond.fieldLink RX0 20 "LocalBounds" "count" "I", Cond.fieldLink RX0 27 "LocalBounds" "black" "[Z", Cond.fieldLink RX0 44 "LocalBounds" "marked" "[Z", Cond.methodLink RX0 201 yX0_unmarkAll, Cond.instanceMethod yX0_unmarkAll, Cond.selects RX0 yX0_unmarkAll yX0_unmarkAll, Cond.initialized RX0, Cond.code yX0_unmarkAll cX0_unmarkAll 2 none, Cond.methodLink RX0 204 yX0_gatherPart, Cond.instanceMethod yX0_gatherPart, Cond.selects RX0 yX0_gatherPart yX0_gatherPart, Cond.code yX0_gatherPart cX0_gatherPart 6 none, Cond.fieldLink RX0 121 "LocalBounds" "queued" "I", Cond.fieldLink RX0 47 "LocalBounds" "queue" "[I", Cond.methodLink RX0 124 yX0_enqueue, Cond.instanceMethod yX0_enqueue, Cond.selects RX0 yX0_enqueue yX0_enqueue, Cond.code yX0_enqueue cX0_enqueue 2 none, Cond.methodLink RX0 128 yX0_columnOf, Cond.instanceMethod yX0_columnOf, Cond.selects RX0 yX0_columnOf yX0_columnOf, Cond.code yX0_columnOf cX0_columnOf 2 (some .int), Cond.fieldLink RX0 13 "LocalBounds" "width" "I", Cond.methodLink RX0 131 yX0_rowOf]
def wsX0_countBlackParts_r2 : List Cond := [Cond.instanceMethod yX0_rowOf, Cond.selects RX0 yX0_rowOf yX0_rowOf, Cond.code yX0_rowOf cX0_rowOf 2 (some .int), Cond.methodLink RX0 197 yX0_gather, Cond.instanceMethod yX0_gather, Cond.selects RX0 yX0_gather yX0_gather, Cond.code yX0_gather cX0_gather 5 none, Cond.methodLink RX0 50 yX0_isInside, Cond.instanceMethod yX0_isInside, Cond.selects RX0 yX0_isInside yX0_isInside, Cond.code yX0_isInside cX0_isInside 3 (some .boolean), Cond.fieldLink RX0 17 "LocalBounds" "height" "I", Cond.methodLink RX0 66 yX0_placeOf, Cond.instanceMethod yX0_placeOf, Cond.selects RX0 yX0_placeOf yX0_placeOf, Cond.code yX0_placeOf cX0_placeOf 3 (some .int)]
def wsX0_countBlackParts : List Cond := .code yX0_countBlackParts cX0_countBlackParts 3 (some .int) :: ((wsX0_countBlackParts_r1 ++ wsX0_countBlackParts_r2) ++ wsX00)
def wsX0_countGreys : List Cond := .code yX0_countGreys cX0_countGreys 3 (some .int) :: ([.fieldLink RX0 31 "LocalBounds" "ofGrey" "[I", .methodLink RX0 171 yX0_fillOfGrey, .instanceMethod yX0_fillOfGrey, .selects RX0 yX0_fillOfGrey yX0_fillOfGrey, .initialized RX0, .code yX0_fillOfGrey cX0_fillOfGrey 3 none, .fieldLink RX0 20 "LocalBounds" "count" "I", .fieldLink RX0 23 "LocalBounds" "samples" "[I", .methodLink RX0 95 yJ7_fill_53178, .static yJ7_fill_53178, .initialized RJ7, .code yJ7_fill_53178 cJ7_fill_53178 4 none] ++ wsX00)
def wsX0_told_r1 : List Cond := [Cond.fieldLink RX0 13 "LocalBounds" "width" "I", Cond.fieldLink RX0 17 "LocalBounds" "height" "I", Cond.methodLink RX0 90 yX0_countBlack, Cond.instanceMethod yX0_countBlack, Cond.selects RX0 yX0_countBlack yX0_countBlack, Cond.initialized RX0, Cond.code yX0_countBlack cX0_countBlack 3 (some .int), Cond.fieldLink RX0 20 "LocalBounds" "count" "I", Cond.fieldLink RX0 27 "LocalBounds" "black" "[Z", Cond.methodLink RX0 159 yX0_countBlackParts, Cond.instanceMethod yX0_countBlackParts, Cond.selects RX0 yX0_countBlackParts yX0_countBlackParts, Cond.code yX0_countBlackParts cX0_countBlackParts 3 (some .int), Cond.fieldLink RX0 44 "LocalBounds" "marked" "[Z", Cond.methodLink RX0 201 yX0_unmarkAll, Cond.instanceMethod yX0_unmarkAll, Cond.selects RX0 yX0_unmarkAll yX0_unmarkAll, Cond.code yX0_unmarkAll cX0_unmarkAll 2 none, Cond.methodLink RX0 204 yX0_gatherPart, Cond.instanceMethod yX0_gatherPart, Cond.selects RX0 yX0_gatherPart yX0_gatherPart, Cond.code yX0_gatherPart cX0_gatherPart 6 none, Cond.fieldLink RX0 121 "LocalBounds" "queued" "I", Cond.fieldLink RX0 47 "LocalBounds" "queue" "[I"]
def wsX0_told_r2 : List Cond := [Cond.methodLink RX0 124 yX0_enqueue, Cond.instanceMethod yX0_enqueue, Cond.selects RX0 yX0_enqueue yX0_enqueue, Cond.code yX0_enqueue cX0_enqueue 2 none, Cond.methodLink RX0 128 yX0_columnOf, Cond.instanceMethod yX0_columnOf, Cond.selects RX0 yX0_columnOf yX0_columnOf, Cond.code yX0_columnOf cX0_columnOf 2 (some .int), Cond.methodLink RX0 131 yX0_rowOf, Cond.instanceMethod yX0_rowOf, Cond.selects RX0 yX0_rowOf yX0_rowOf, Cond.code yX0_rowOf cX0_rowOf 2 (some .int), Cond.methodLink RX0 197 yX0_gather, Cond.instanceMethod yX0_gather, Cond.selects RX0 yX0_gather yX0_gather, Cond.code yX0_gather cX0_gather 5 none, Cond.methodLink RX0 50 yX0_isInside, Cond.instanceMethod yX0_isInside, Cond.selects RX0 yX0_isInside yX0_isInside, Cond.code yX0_isInside cX0_isInside 3 (some .boolean), Cond.methodLink RX0 66 yX0_placeOf, Cond.instanceMethod yX0_placeOf, Cond.selects RX0 yX0_placeOf yX0_placeOf, Cond.code yX0_placeOf cX0_placeOf 3 (some .int)]
def wsX0_told_r3 : List Cond := [Cond.methodLink RX0 162 yX0_countGreys, Cond.instanceMethod yX0_countGreys, Cond.selects RX0 yX0_countGreys yX0_countGreys, Cond.code yX0_countGreys cX0_countGreys 3 (some .int), Cond.fieldLink RX0 31 "LocalBounds" "ofGrey" "[I", Cond.methodLink RX0 171 yX0_fillOfGrey, Cond.instanceMethod yX0_fillOfGrey, Cond.selects RX0 yX0_fillOfGrey yX0_fillOfGrey, Cond.code yX0_fillOfGrey cX0_fillOfGrey 3 none, Cond.fieldLink RX0 23 "LocalBounds" "samples" "[I", Cond.methodLink RX0 95 yJ7_fill_53178, Cond.static yJ7_fill_53178, Cond.initialized RJ7, Cond.code yJ7_fill_53178 cJ7_fill_53178 4 none]
def wsX0_told : List Cond := .code yX0_told cX0_told 2 (some .int) :: ((wsX0_told_r1 ++ (wsX0_told_r2 ++ wsX0_told_r3)) ++ wsX00)
def wsX0_clear : List Cond := .code yX0_clear cX0_clear 2 none :: ([.fieldLink RX0 20 "LocalBounds" "count" "I", .fieldLink RX0 23 "LocalBounds" "samples" "[I", .fieldLink RX0 27 "LocalBounds" "black" "[Z", .fieldLink RX0 101 "LocalBounds" "lost" "J"] ++ wsX00)
def wsX1_init : List Cond := .code yX1_init cX1_init 3 none :: ([.methodLink RX1 1 objectInit, .instanceMethod objectInit, .code objectInit ⟨#[0xb1]⟩ 1 none, .arrayClass .int, .fieldLink RX1 7 "LocalBoundsModel" "samples" "[I", .arrayClass .boolean, .fieldLink RX1 13 "LocalBoundsModel" "black" "[Z", .fieldLink RX1 17 "LocalBoundsModel" "next" "[Z", .fieldLink RX1 20 "LocalBoundsModel" "came" "[I", .fieldLink RX1 23 "LocalBoundsModel" "part" "[I", .fieldLink RX1 26 "LocalBoundsModel" "width" "I", .fieldLink RX1 30 "LocalBoundsModel" "height" "I"] ++ wsX10)
def wsX1_thrown : List Cond := .code yX1_thrown cX1_thrown 1 (some .int) :: ([.fieldLink RX1 33 "LocalBoundsModel" "thrown" "I"] ++ wsX10)
def wsX1_isIn : List Cond := .code yX1_isIn cX1_isIn 3 (some .boolean) :: ([.fieldLink RX1 26 "LocalBoundsModel" "width" "I", .fieldLink RX1 30 "LocalBoundsModel" "height" "I"] ++ wsX10)
def wsX1_all : List Cond := .code yX1_all cX1_all 1 (some .int) :: ([.fieldLink RX1 26 "LocalBoundsModel" "width" "I", .fieldLink RX1 30 "LocalBoundsModel" "height" "I"] ++ wsX10)
def wsX1_put : List Cond := .code yX1_put cX1_put 5 (some .int) :: ([.fieldLink RX1 33 "LocalBoundsModel" "thrown" "I", .fieldLink RX1 7 "LocalBoundsModel" "samples" "[I", .fieldLink RX1 26 "LocalBoundsModel" "width" "I", .methodLink RX1 36 yX1_isIn, .instanceMethod yX1_isIn, .selects RX1 yX1_isIn yX1_isIn, .initialized RX1, .code yX1_isIn cX1_isIn 3 (some .boolean), .fieldLink RX1 30 "LocalBoundsModel" "height" "I"] ++ wsX10)
def wsX1_paint : List Cond := .code yX1_paint cX1_paint 6 (some .int) :: ([.fieldLink RX1 33 "LocalBoundsModel" "thrown" "I", .fieldLink RX1 7 "LocalBoundsModel" "samples" "[I", .methodLink RX1 40 yX1_all, .instanceMethod yX1_all, .selects RX1 yX1_all yX1_all, .initialized RX1, .code yX1_all cX1_all 1 (some .int), .fieldLink RX1 26 "LocalBoundsModel" "width" "I", .fieldLink RX1 30 "LocalBoundsModel" "height" "I"] ++ wsX10)
def wsX1_blacks : List Cond := .code yX1_blacks cX1_blacks 3 (some .int) :: ([.fieldLink RX1 13 "LocalBoundsModel" "black" "[Z", .methodLink RX1 40 yX1_all, .instanceMethod yX1_all, .selects RX1 yX1_all yX1_all, .initialized RX1, .code yX1_all cX1_all 1 (some .int), .fieldLink RX1 26 "LocalBoundsModel" "width" "I", .fieldLink RX1 30 "LocalBoundsModel" "height" "I"] ++ wsX10)
def wsX1_global : List Cond := .code yX1_global cX1_global 17 (some .int) :: ([.fieldLink RX1 33 "LocalBoundsModel" "thrown" "I", .fieldLink RX1 7 "LocalBoundsModel" "samples" "[I", .fieldLink RX1 13 "LocalBoundsModel" "black" "[Z", .methodLink RX1 40 yX1_all, .instanceMethod yX1_all, .selects RX1 yX1_all yX1_all, .initialized RX1, .code yX1_all cX1_all 1 (some .int), .fieldLink RX1 26 "LocalBoundsModel" "width" "I", .fieldLink RX1 30 "LocalBoundsModel" "height" "I"] ++ wsX10)
def wsX1_isDark : List Cond := .code yX1_isDark cX1_isDark 17 (some .boolean) :: ([.fieldLink RX1 7 "LocalBoundsModel" "samples" "[I", .fieldLink RX1 26 "LocalBoundsModel" "width" "I", .constantLong RX1 44 (128), .constantLong RX1 46 (256), .methodLink RX1 36 yX1_isIn, .instanceMethod yX1_isIn, .selects RX1 yX1_isIn yX1_isIn, .initialized RX1, .code yX1_isIn cX1_isIn 3 (some .boolean), .fieldLink RX1 30 "LocalBoundsModel" "height" "I"] ++ wsX10)
def wsX1_local : List Cond := .code yX1_local cX1_local 5 (some .int) :: ([.fieldLink RX1 33 "LocalBoundsModel" "thrown" "I", .fieldLink RX1 13 "LocalBoundsModel" "black" "[Z", .fieldLink RX1 26 "LocalBoundsModel" "width" "I", .methodLink RX1 40 yX1_all, .instanceMethod yX1_all, .selects RX1 yX1_all yX1_all, .initialized RX1, .code yX1_all cX1_all 1 (some .int), .fieldLink RX1 30 "LocalBoundsModel" "height" "I", .methodLink RX1 48 yX1_isDark, .instanceMethod yX1_isDark, .selects RX1 yX1_isDark yX1_isDark, .code yX1_isDark cX1_isDark 17 (some .boolean), .fieldLink RX1 7 "LocalBoundsModel" "samples" "[I", .constantLong RX1 44 (128), .constantLong RX1 46 (256), .methodLink RX1 36 yX1_isIn, .instanceMethod yX1_isIn, .selects RX1 yX1_isIn yX1_isIn, .code yX1_isIn cX1_isIn 3 (some .boolean), .methodLink RX1 52 yX1_blacks, .instanceMethod yX1_blacks, .selects RX1 yX1_blacks yX1_blacks, .code yX1_blacks cX1_blacks 3 (some .int)] ++ wsX10)
def wsX1_pass : List Cond := .code yX1_pass cX1_pass 4 none :: ([.fieldLink RX1 20 "LocalBoundsModel" "came" "[I", .fieldLink RX1 26 "LocalBoundsModel" "width" "I", .fieldLink RX1 55 "LocalBoundsModel" "rest" "J", .methodLink RX1 36 yX1_isIn, .instanceMethod yX1_isIn, .selects RX1 yX1_isIn yX1_isIn, .initialized RX1, .code yX1_isIn cX1_isIn 3 (some .boolean), .fieldLink RX1 30 "LocalBoundsModel" "height" "I"] ++ wsX10)
def wsX1_spread : List Cond := .code yX1_spread cX1_spread 11 (some .int) :: ([.fieldLink RX1 33 "LocalBoundsModel" "thrown" "I", .fieldLink RX1 55 "LocalBoundsModel" "rest" "J", .fieldLink RX1 20 "LocalBoundsModel" "came" "[I", .fieldLink RX1 30 "LocalBoundsModel" "height" "I", .fieldLink RX1 26 "LocalBoundsModel" "width" "I", .fieldLink RX1 7 "LocalBoundsModel" "samples" "[I", .fieldLink RX1 13 "LocalBoundsModel" "black" "[Z", .methodLink RX1 59 yX1_pass, .instanceMethod yX1_pass, .selects RX1 yX1_pass yX1_pass, .initialized RX1, .code yX1_pass cX1_pass 4 none, .methodLink RX1 36 yX1_isIn, .instanceMethod yX1_isIn, .selects RX1 yX1_isIn yX1_isIn, .code yX1_isIn cX1_isIn 3 (some .boolean), .methodLink RX1 52 yX1_blacks, .instanceMethod yX1_blacks, .selects RX1 yX1_blacks yX1_blacks, .code yX1_blacks cX1_blacks 3 (some .int), .methodLink RX1 40 yX1_all, .instanceMethod yX1_all, .selects RX1 yX1_all yX1_all, .code yX1_all cX1_all 1 (some .int)] ++ wsX10)
def wsX1_rest : List Cond := .code yX1_rest cX1_rest 1 (some .long) :: ([.fieldLink RX1 33 "LocalBoundsModel" "thrown" "I", .fieldLink RX1 55 "LocalBoundsModel" "rest" "J"] ++ wsX10)
def wsX1_isCells : List Cond := .code yX1_isCells cX1_isCells 1 (some .boolean) :: ([])
def wsX1_cellOf : List Cond := .code yX1_cellOf cX1_cellOf 7 (some .int) :: ([])
def wsX1_ordered : List Cond := .code yX1_ordered cX1_ordered 4 (some .int) :: ([.fieldLink RX1 33 "LocalBoundsModel" "thrown" "I", .fieldLink RX1 26 "LocalBoundsModel" "width" "I", .fieldLink RX1 13 "LocalBoundsModel" "black" "[Z", .fieldLink RX1 7 "LocalBoundsModel" "samples" "[I", .methodLink RX1 63 yX1_isCells, .static yX1_isCells, .initialized RX1, .code yX1_isCells cX1_isCells 1 (some .boolean), .methodLink RX1 40 yX1_all, .instanceMethod yX1_all, .selects RX1 yX1_all yX1_all, .code yX1_all cX1_all 1 (some .int), .fieldLink RX1 30 "LocalBoundsModel" "height" "I", .methodLink RX1 67 yX1_cellOf, .static yX1_cellOf, .code yX1_cellOf cX1_cellOf 7 (some .int), .methodLink RX1 52 yX1_blacks, .instanceMethod yX1_blacks, .selects RX1 yX1_blacks yX1_blacks, .code yX1_blacks cX1_blacks 3 (some .int)] ++ wsX10)
def wsX1_cell : List Cond := .code yX1_cell cX1_cell 4 (some .int) :: ([.fieldLink RX1 33 "LocalBoundsModel" "thrown" "I", .methodLink RX1 63 yX1_isCells, .static yX1_isCells, .initialized RX1, .code yX1_isCells cX1_isCells 1 (some .boolean), .methodLink RX1 67 yX1_cellOf, .static yX1_cellOf, .code yX1_cellOf cX1_cellOf 7 (some .int)] ++ wsX10)
def wsX1_touchesBlack : List Cond := .code yX1_touchesBlack cX1_touchesBlack 6 (some .boolean) :: ([.fieldLink RX1 13 "LocalBoundsModel" "black" "[Z", .fieldLink RX1 26 "LocalBoundsModel" "width" "I", .methodLink RX1 36 yX1_isIn, .instanceMethod yX1_isIn, .selects RX1 yX1_isIn yX1_isIn, .initialized RX1, .code yX1_isIn cX1_isIn 3 (some .boolean), .fieldLink RX1 30 "LocalBoundsModel" "height" "I"] ++ wsX10)
def wsX1_join : List Cond := .code yX1_join cX1_join 6 (some .int) :: ([.fieldLink RX1 33 "LocalBoundsModel" "thrown" "I", .fieldLink RX1 13 "LocalBoundsModel" "black" "[Z", .fieldLink RX1 7 "LocalBoundsModel" "samples" "[I", .fieldLink RX1 26 "LocalBoundsModel" "width" "I", .methodLink RX1 40 yX1_all, .instanceMethod yX1_all, .selects RX1 yX1_all yX1_all, .initialized RX1, .code yX1_all cX1_all 1 (some .int), .fieldLink RX1 30 "LocalBoundsModel" "height" "I", .methodLink RX1 71 yX1_touchesBlack, .instanceMethod yX1_touchesBlack, .selects RX1 yX1_touchesBlack yX1_touchesBlack, .code yX1_touchesBlack cX1_touchesBlack 6 (some .boolean), .methodLink RX1 36 yX1_isIn, .instanceMethod yX1_isIn, .selects RX1 yX1_isIn yX1_isIn, .code yX1_isIn cX1_isIn 3 (some .boolean), .methodLink RX1 52 yX1_blacks, .instanceMethod yX1_blacks, .selects RX1 yX1_blacks yX1_blacks, .code yX1_blacks cX1_blacks 3 (some .int)] ++ wsX10)
def wsX1_lesser : List Cond := .code yX1_lesser cX1_lesser 5 (some .int) :: ([.fieldLink RX1 13 "LocalBoundsModel" "black" "[Z", .fieldLink RX1 26 "LocalBoundsModel" "width" "I", .fieldLink RX1 23 "LocalBoundsModel" "part" "[I", .methodLink RX1 36 yX1_isIn, .instanceMethod yX1_isIn, .selects RX1 yX1_isIn yX1_isIn, .initialized RX1, .code yX1_isIn cX1_isIn 3 (some .boolean), .fieldLink RX1 30 "LocalBoundsModel" "height" "I"] ++ wsX10)
def wsX1_findParts : List Cond := .code yX1_findParts cX1_findParts 7 none :: ([.fieldLink RX1 23 "LocalBoundsModel" "part" "[I", .fieldLink RX1 13 "LocalBoundsModel" "black" "[Z", .fieldLink RX1 26 "LocalBoundsModel" "width" "I", .methodLink RX1 40 yX1_all, .instanceMethod yX1_all, .selects RX1 yX1_all yX1_all, .initialized RX1, .code yX1_all cX1_all 1 (some .int), .fieldLink RX1 30 "LocalBoundsModel" "height" "I", .methodLink RX1 74 yX1_lesser, .instanceMethod yX1_lesser, .selects RX1 yX1_lesser yX1_lesser, .code yX1_lesser cX1_lesser 5 (some .int), .methodLink RX1 36 yX1_isIn, .instanceMethod yX1_isIn, .selects RX1 yX1_isIn yX1_isIn, .code yX1_isIn cX1_isIn 3 (some .boolean)] ++ wsX10)
def wsX1_turnSpecks : List Cond := .code yX1_turnSpecks cX1_turnSpecks 10 (some .int) :: ([.fieldLink RX1 23 "LocalBoundsModel" "part" "[I", .fieldLink RX1 26 "LocalBoundsModel" "width" "I", .fieldLink RX1 30 "LocalBoundsModel" "height" "I", .fieldLink RX1 13 "LocalBoundsModel" "black" "[Z", .methodLink RX1 78 yX1_findParts, .instanceMethod yX1_findParts, .selects RX1 yX1_findParts yX1_findParts, .initialized RX1, .code yX1_findParts cX1_findParts 7 none, .methodLink RX1 40 yX1_all, .instanceMethod yX1_all, .selects RX1 yX1_all yX1_all, .code yX1_all cX1_all 1 (some .int), .methodLink RX1 74 yX1_lesser, .instanceMethod yX1_lesser, .selects RX1 yX1_lesser yX1_lesser, .code yX1_lesser cX1_lesser 5 (some .int), .methodLink RX1 36 yX1_isIn, .instanceMethod yX1_isIn, .selects RX1 yX1_isIn yX1_isIn, .code yX1_isIn cX1_isIn 3 (some .boolean)] ++ wsX10)
def wsX1_clean_r1 : List Cond := [Cond.fieldLink RX1 33 "LocalBoundsModel" "thrown" "I", Cond.methodLink RX1 82 yX1_turnSpecks, Cond.instanceMethod yX1_turnSpecks, Cond.selects RX1 yX1_turnSpecks yX1_turnSpecks, Cond.initialized RX1, Cond.code yX1_turnSpecks cX1_turnSpecks 10 (some .int), Cond.fieldLink RX1 23 "LocalBoundsModel" "part" "[I", Cond.fieldLink RX1 26 "LocalBoundsModel" "width" "I", Cond.fieldLink RX1 30 "LocalBoundsModel" "height" "I", Cond.fieldLink RX1 13 "LocalBoundsModel" "black" "[Z", Cond.methodLink RX1 78 yX1_findParts, Cond.instanceMethod yX1_findParts, Cond.selects RX1 yX1_findParts yX1_findParts, Cond.code yX1_findParts cX1_findParts 7 none, Cond.methodLink RX1 40 yX1_all, Cond.instanceMethod yX1_all, Cond.selects RX1 yX1_all yX1_all, Cond.code yX1_all cX1_all 1 (some .int), Cond.methodLink RX1 74 yX1_lesser, Cond.instanceMethod yX1_lesser, Cond.selects RX1 yX1_lesser yX1_lesser, Cond.code yX1_lesser cX1_lesser 5 (some .int), Cond.methodLink RX1 36 yX1_isIn, Cond.instanceMethod yX1_isIn]
def wsX1_clean_r2 : List Cond := [Cond.selects RX1 yX1_isIn yX1_isIn, Cond.code yX1_isIn cX1_isIn 3 (some .boolean)]
def wsX1_clean : List Cond := .code yX1_clean cX1_clean 3 (some .int) :: ((wsX1_clean_r1 ++ wsX1_clean_r2) ++ wsX10)
def wsX1_isBlackAt : List Cond := .code yX1_isBlackAt cX1_isBlackAt 3 (some .boolean) :: ([.fieldLink RX1 13 "LocalBoundsModel" "black" "[Z", .fieldLink RX1 26 "LocalBoundsModel" "width" "I", .methodLink RX1 36 yX1_isIn, .instanceMethod yX1_isIn, .selects RX1 yX1_isIn yX1_isIn, .initialized RX1, .code yX1_isIn cX1_isIn 3 (some .boolean), .fieldLink RX1 30 "LocalBoundsModel" "height" "I"] ++ wsX10)
def wsX1_edges : List Cond := .code yX1_edges cX1_edges 5 (some .int) :: ([.fieldLink RX1 33 "LocalBoundsModel" "thrown" "I", .fieldLink RX1 26 "LocalBoundsModel" "width" "I", .fieldLink RX1 17 "LocalBoundsModel" "next" "[Z", .fieldLink RX1 13 "LocalBoundsModel" "black" "[Z", .methodLink RX1 40 yX1_all, .instanceMethod yX1_all, .selects RX1 yX1_all yX1_all, .initialized RX1, .code yX1_all cX1_all 1 (some .int), .fieldLink RX1 30 "LocalBoundsModel" "height" "I", .methodLink RX1 86 yX1_isBlackAt, .instanceMethod yX1_isBlackAt, .selects RX1 yX1_isBlackAt yX1_isBlackAt, .code yX1_isBlackAt cX1_isBlackAt 3 (some .boolean), .methodLink RX1 36 yX1_isIn, .instanceMethod yX1_isIn, .selects RX1 yX1_isIn yX1_isIn, .code yX1_isIn cX1_isIn 3 (some .boolean), .methodLink RX1 52 yX1_blacks, .instanceMethod yX1_blacks, .selects RX1 yX1_blacks yX1_blacks, .code yX1_blacks cX1_blacks 3 (some .int)] ++ wsX10)
def wsX1_invert : List Cond := .code yX1_invert cX1_invert 2 (some .int) :: ([.fieldLink RX1 33 "LocalBoundsModel" "thrown" "I", .fieldLink RX1 13 "LocalBoundsModel" "black" "[Z", .methodLink RX1 40 yX1_all, .instanceMethod yX1_all, .selects RX1 yX1_all yX1_all, .initialized RX1, .code yX1_all cX1_all 1 (some .int), .fieldLink RX1 26 "LocalBoundsModel" "width" "I", .fieldLink RX1 30 "LocalBoundsModel" "height" "I", .methodLink RX1 52 yX1_blacks, .instanceMethod yX1_blacks, .selects RX1 yX1_blacks yX1_blacks, .code yX1_blacks cX1_blacks 3 (some .int)] ++ wsX10)
def wsX1_at : List Cond := .code yX1_at cX1_at 3 (some .boolean) :: ([.fieldLink RX1 33 "LocalBoundsModel" "thrown" "I", .fieldLink RX1 13 "LocalBoundsModel" "black" "[Z", .fieldLink RX1 26 "LocalBoundsModel" "width" "I", .methodLink RX1 36 yX1_isIn, .instanceMethod yX1_isIn, .selects RX1 yX1_isIn yX1_isIn, .initialized RX1, .code yX1_isIn cX1_isIn 3 (some .boolean), .fieldLink RX1 30 "LocalBoundsModel" "height" "I"] ++ wsX10)
def wsX1_sum : List Cond := .code yX1_sum cX1_sum 13 (some .long) :: ([.fieldLink RX1 26 "LocalBoundsModel" "width" "I", .fieldLink RX1 30 "LocalBoundsModel" "height" "I", .fieldLink RX1 33 "LocalBoundsModel" "thrown" "I", .fieldLink RX1 7 "LocalBoundsModel" "samples" "[I", .methodLink RX1 40 yX1_all, .instanceMethod yX1_all, .selects RX1 yX1_all yX1_all, .initialized RX1, .code yX1_all cX1_all 1 (some .int)] ++ wsX10)
def wsX1_parts : List Cond := .code yX1_parts cX1_parts 3 (some .int) :: ([.fieldLink RX1 23 "LocalBoundsModel" "part" "[I", .methodLink RX1 78 yX1_findParts, .instanceMethod yX1_findParts, .selects RX1 yX1_findParts yX1_findParts, .initialized RX1, .code yX1_findParts cX1_findParts 7 none, .fieldLink RX1 13 "LocalBoundsModel" "black" "[Z", .fieldLink RX1 26 "LocalBoundsModel" "width" "I", .methodLink RX1 40 yX1_all, .instanceMethod yX1_all, .selects RX1 yX1_all yX1_all, .code yX1_all cX1_all 1 (some .int), .fieldLink RX1 30 "LocalBoundsModel" "height" "I", .methodLink RX1 74 yX1_lesser, .instanceMethod yX1_lesser, .selects RX1 yX1_lesser yX1_lesser, .code yX1_lesser cX1_lesser 5 (some .int), .methodLink RX1 36 yX1_isIn, .instanceMethod yX1_isIn, .selects RX1 yX1_isIn yX1_isIn, .code yX1_isIn cX1_isIn 3 (some .boolean)] ++ wsX10)
def wsX1_different : List Cond := .code yX1_different cX1_different 5 (some .int) :: ([.fieldLink RX1 7 "LocalBoundsModel" "samples" "[I", .methodLink RX1 40 yX1_all, .instanceMethod yX1_all, .selects RX1 yX1_all yX1_all, .initialized RX1, .code yX1_all cX1_all 1 (some .int), .fieldLink RX1 26 "LocalBoundsModel" "width" "I", .fieldLink RX1 30 "LocalBoundsModel" "height" "I"] ++ wsX10)
def wsX1_told_r1 : List Cond := [Cond.fieldLink RX1 33 "LocalBoundsModel" "thrown" "I", Cond.fieldLink RX1 26 "LocalBoundsModel" "width" "I", Cond.fieldLink RX1 30 "LocalBoundsModel" "height" "I", Cond.methodLink RX1 52 yX1_blacks, Cond.instanceMethod yX1_blacks, Cond.selects RX1 yX1_blacks yX1_blacks, Cond.initialized RX1, Cond.code yX1_blacks cX1_blacks 3 (some .int), Cond.fieldLink RX1 13 "LocalBoundsModel" "black" "[Z", Cond.methodLink RX1 40 yX1_all, Cond.instanceMethod yX1_all, Cond.selects RX1 yX1_all yX1_all, Cond.code yX1_all cX1_all 1 (some .int), Cond.methodLink RX1 89 yX1_parts, Cond.instanceMethod yX1_parts, Cond.selects RX1 yX1_parts yX1_parts, Cond.code yX1_parts cX1_parts 3 (some .int), Cond.fieldLink RX1 23 "LocalBoundsModel" "part" "[I", Cond.methodLink RX1 78 yX1_findParts, Cond.instanceMethod yX1_findParts, Cond.selects RX1 yX1_findParts yX1_findParts, Cond.code yX1_findParts cX1_findParts 7 none, Cond.methodLink RX1 74 yX1_lesser, Cond.instanceMethod yX1_lesser]
def wsX1_told_r2 : List Cond := [Cond.selects RX1 yX1_lesser yX1_lesser, Cond.code yX1_lesser cX1_lesser 5 (some .int), Cond.methodLink RX1 36 yX1_isIn, Cond.instanceMethod yX1_isIn, Cond.selects RX1 yX1_isIn yX1_isIn, Cond.code yX1_isIn cX1_isIn 3 (some .boolean), Cond.methodLink RX1 92 yX1_different, Cond.instanceMethod yX1_different, Cond.selects RX1 yX1_different yX1_different, Cond.code yX1_different cX1_different 5 (some .int), Cond.fieldLink RX1 7 "LocalBoundsModel" "samples" "[I"]
def wsX1_told : List Cond := .code yX1_told cX1_told 2 (some .int) :: ((wsX1_told_r1 ++ wsX1_told_r2) ++ wsX10)
def wsX1_clear : List Cond := .code yX1_clear cX1_clear 2 none :: ([.fieldLink RX1 33 "LocalBoundsModel" "thrown" "I", .fieldLink RX1 55 "LocalBoundsModel" "rest" "J", .fieldLink RX1 7 "LocalBoundsModel" "samples" "[I", .fieldLink RX1 13 "LocalBoundsModel" "black" "[Z"] ++ wsX10)
def wsJ9_max_7cf53 : List Cond := .code yJ9_max_7cf53 cJ9_max_7cf53 2 (some .int) :: ([])
def wsJ9_min_7cf53 : List Cond := .code yJ9_min_7cf53 cJ9_min_7cf53 2 (some .int) :: ([])
def wsL_cell : List Cond := .code yL_cell cL_cell 2 (some .int) :: ([])
def wsL_put : List Cond := .codeWith yL_put cL_put 6 (some .int) [(0, 12, 15, 13), (0, 12, 19, 15)] :: ([.classLink RL 13 "java/lang/IndexOutOfBoundsException", .classLink RL 15 "java/lang/IllegalArgumentException", .methodLink RL 7 yX0_put, .instanceMethod yX0_put, .selects RX0 yX0_put yX0_put, .initialized RX0, .code yX0_put cX0_put 6 (some .int), .classLink RX0 54 "java/lang/IndexOutOfBoundsException", .initialized "java/lang/IndexOutOfBoundsException", .classLink RX0 61 "java/lang/IllegalArgumentException", .initialized "java/lang/IllegalArgumentException", .fieldLink RX0 23 "LocalBounds" "samples" "[I", .methodLink RX0 50 yX0_isInside, .instanceMethod yX0_isInside, .selects RX0 yX0_isInside yX0_isInside, .code yX0_isInside cX0_isInside 3 (some .boolean), .fieldLink RX0 13 "LocalBounds" "width" "I", .fieldLink RX0 17 "LocalBounds" "height" "I", .methodLink RX0 66 yX0_placeOf, .instanceMethod yX0_placeOf, .selects RX0 yX0_placeOf yX0_placeOf, .code yX0_placeOf cX0_placeOf 3 (some .int)] ++ wsX00 ++ (vx_atS RX0 58 "java/lang/IndexOutOfBoundsException" ["java/lang/RuntimeException", "java/lang/Exception"]).filter goodWord ++ (vx_atS RX0 65 "java/lang/IllegalArgumentException" ["java/lang/RuntimeException", "java/lang/Exception"]).filter goodWord)
def wsL_local_r1 : List Cond := [Cond.classLink RL 15 "java/lang/IllegalArgumentException", Cond.methodLink RL 17 yX0_local, Cond.instanceMethod yX0_local, Cond.selects RX0 yX0_local yX0_local, Cond.initialized RX0, Cond.code yX0_local cX0_local 6 (some .int), Cond.classLink RX0 61 "java/lang/IllegalArgumentException", Cond.initialized "java/lang/IllegalArgumentException", Cond.fieldLink RX0 17 "LocalBounds" "height" "I", Cond.fieldLink RX0 13 "LocalBounds" "width" "I", Cond.fieldLink RX0 27 "LocalBounds" "black" "[Z", Cond.methodLink RX0 83 yX0_fillSums, Cond.instanceMethod yX0_fillSums, Cond.selects RX0 yX0_fillSums yX0_fillSums, Cond.code yX0_fillSums cX0_fillSums 11 none, Cond.fieldLink RX0 23 "LocalBounds" "samples" "[I", Cond.fieldLink RX0 37 "LocalBounds" "sums" "[J", Cond.fieldLink RX0 41 "LocalBounds" "squareSums" "[J", Cond.methodLink RX0 66 yX0_placeOf, Cond.instanceMethod yX0_placeOf, Cond.selects RX0 yX0_placeOf yX0_placeOf, Cond.code yX0_placeOf cX0_placeOf 3 (some .int), Cond.methodLink RX0 178 yX0_cornerOf, Cond.instanceMethod yX0_cornerOf]
def wsL_local_r2 : List Cond := [Cond.selects RX0 yX0_cornerOf yX0_cornerOf, Cond.code yX0_cornerOf cX0_cornerOf 3 (some .int), Cond.methodLink RX0 86 yX0_isDarkInWindow, Cond.instanceMethod yX0_isDarkInWindow, Cond.selects RX0 yX0_isDarkInWindow yX0_isDarkInWindow, Cond.code yX0_isDarkInWindow cX0_isDarkInWindow 20 (some .boolean), Cond.methodLink RX0 168 Lib.Math.max.name, Cond.static Lib.Math.max.name, Cond.initialized "java/lang/Math", Cond.code Lib.Math.max.name Lib.Math.max.code 2 (some .int), Cond.methodLink RX0 165 Lib.Math.min.name, Cond.static Lib.Math.min.name, Cond.code Lib.Math.min.name Lib.Math.min.code 2 (some .int), Cond.constantLong RX0 181 (256), Cond.methodLink RX0 153 yX0_sumBetween, Cond.instanceMethod yX0_sumBetween, Cond.selects RX0 yX0_sumBetween yX0_sumBetween, Cond.code yX0_sumBetween cX0_sumBetween 10 (some .long), Cond.methodLink RX0 90 yX0_countBlack, Cond.instanceMethod yX0_countBlack, Cond.selects RX0 yX0_countBlack yX0_countBlack, Cond.code yX0_countBlack cX0_countBlack 3 (some .int), Cond.fieldLink RX0 20 "LocalBounds" "count" "I"]
def wsL_local : List Cond := .codeWith yL_local cL_local 5 (some .int) [(0, 10, 13, 15)] :: ((wsL_local_r1 ++ wsL_local_r2) ++ wsX00 ++ (vx_atS RX0 65 "java/lang/IllegalArgumentException" ["java/lang/RuntimeException", "java/lang/Exception"]).filter goodWord)
def wsL_spread_r1 : List Cond := [Cond.classLink RL 15 "java/lang/IllegalArgumentException", Cond.methodLink RL 21 yX0_spread, Cond.instanceMethod yX0_spread, Cond.selects RX0 yX0_spread yX0_spread, Cond.initialized RX0, Cond.code yX0_spread cX0_spread 3 (some .int), Cond.classLink RX0 61 "java/lang/IllegalArgumentException", Cond.initialized "java/lang/IllegalArgumentException", Cond.fieldLink RX0 34 "LocalBounds" "came" "[I", Cond.fieldLink RX0 101 "LocalBounds" "lost" "J", Cond.fieldLink RX0 17 "LocalBounds" "height" "I", Cond.methodLink RX0 95 yJ7_fill_53178, Cond.static yJ7_fill_53178, Cond.initialized RJ7, Cond.code yJ7_fill_53178 cJ7_fill_53178 4 none, Cond.methodLink RX0 105 yX0_spreadRow, Cond.instanceMethod yX0_spreadRow, Cond.selects RX0 yX0_spreadRow yX0_spreadRow, Cond.code yX0_spreadRow cX0_spreadRow 7 none, Cond.fieldLink RX0 13 "LocalBounds" "width" "I", Cond.methodLink RX0 183 yX0_spreadSample, Cond.instanceMethod yX0_spreadSample, Cond.selects RX0 yX0_spreadSample yX0_spreadSample, Cond.code yX0_spreadSample cX0_spreadSample 11 none]
def wsL_spread_r2 : List Cond := [Cond.fieldLink RX0 23 "LocalBounds" "samples" "[I", Cond.fieldLink RX0 27 "LocalBounds" "black" "[Z", Cond.methodLink RX0 66 yX0_placeOf, Cond.instanceMethod yX0_placeOf, Cond.selects RX0 yX0_placeOf yX0_placeOf, Cond.code yX0_placeOf cX0_placeOf 3 (some .int), Cond.methodLink RX0 187 yX0_passTo, Cond.instanceMethod yX0_passTo, Cond.selects RX0 yX0_passTo yX0_passTo, Cond.code yX0_passTo cX0_passTo 4 none, Cond.methodLink RX0 50 yX0_isInside, Cond.instanceMethod yX0_isInside, Cond.selects RX0 yX0_isInside yX0_isInside, Cond.code yX0_isInside cX0_isInside 3 (some .boolean), Cond.methodLink RX0 90 yX0_countBlack, Cond.instanceMethod yX0_countBlack, Cond.selects RX0 yX0_countBlack yX0_countBlack, Cond.code yX0_countBlack cX0_countBlack 3 (some .int), Cond.fieldLink RX0 20 "LocalBounds" "count" "I"]
def wsL_spread : List Cond := .codeWith yL_spread cL_spread 4 (some .int) [(0, 9, 12, 15)] :: ((wsL_spread_r1 ++ wsL_spread_r2) ++ wsX00 ++ (vx_atS RX0 65 "java/lang/IllegalArgumentException" ["java/lang/RuntimeException", "java/lang/Exception"]).filter goodWord)
def wsL_ordered_r1 : List Cond := [Cond.classLink RL 15 "java/lang/IllegalArgumentException", Cond.methodLink RL 25 yX0_ordered, Cond.instanceMethod yX0_ordered, Cond.selects RX0 yX0_ordered yX0_ordered, Cond.initialized RX0, Cond.code yX0_ordered cX0_ordered 6 (some .int), Cond.classLink RX0 61 "java/lang/IllegalArgumentException", Cond.initialized "java/lang/IllegalArgumentException", Cond.fieldLink RX0 17 "LocalBounds" "height" "I", Cond.fieldLink RX0 13 "LocalBounds" "width" "I", Cond.fieldLink RX0 27 "LocalBounds" "black" "[Z", Cond.fieldLink RX0 23 "LocalBounds" "samples" "[I", Cond.methodLink RX0 109 yX0_isCells, Cond.static yX0_isCells, Cond.code yX0_isCells cX0_isCells 1 (some .boolean), Cond.methodLink RX0 66 yX0_placeOf, Cond.instanceMethod yX0_placeOf, Cond.selects RX0 yX0_placeOf yX0_placeOf, Cond.code yX0_placeOf cX0_placeOf 3 (some .int), Cond.methodLink RX0 115 yX0_cellNumber, Cond.static yX0_cellNumber, Cond.code yX0_cellNumber cX0_cellNumber 5 (some .int), Cond.methodLink RX0 190 yX0_quarterNumber, Cond.static yX0_quarterNumber]
def wsL_ordered_r2 : List Cond := [Cond.code yX0_quarterNumber cX0_quarterNumber 2 (some .int), Cond.methodLink RX0 90 yX0_countBlack, Cond.instanceMethod yX0_countBlack, Cond.selects RX0 yX0_countBlack yX0_countBlack, Cond.code yX0_countBlack cX0_countBlack 3 (some .int), Cond.fieldLink RX0 20 "LocalBounds" "count" "I"]
def wsL_ordered : List Cond := .codeWith yL_ordered cL_ordered 4 (some .int) [(0, 9, 12, 15)] :: ((wsL_ordered_r1 ++ wsL_ordered_r2) ++ wsX00 ++ (vx_atS RX0 65 "java/lang/IllegalArgumentException" ["java/lang/RuntimeException", "java/lang/Exception"]).filter goodWord)
def wsL_join_r1 : List Cond := [Cond.classLink RL 15 "java/lang/IllegalArgumentException", Cond.methodLink RL 28 yX0_join, Cond.instanceMethod yX0_join, Cond.selects RX0 yX0_join yX0_join, Cond.initialized RX0, Cond.code yX0_join cX0_join 4 (some .int), Cond.classLink RX0 61 "java/lang/IllegalArgumentException", Cond.initialized "java/lang/IllegalArgumentException", Cond.fieldLink RX0 121 "LocalBounds" "queued" "I", Cond.fieldLink RX0 20 "LocalBounds" "count" "I", Cond.fieldLink RX0 27 "LocalBounds" "black" "[Z", Cond.fieldLink RX0 23 "LocalBounds" "samples" "[I", Cond.fieldLink RX0 47 "LocalBounds" "queue" "[I", Cond.methodLink RX0 124 yX0_enqueue, Cond.instanceMethod yX0_enqueue, Cond.selects RX0 yX0_enqueue yX0_enqueue, Cond.code yX0_enqueue cX0_enqueue 2 none, Cond.methodLink RX0 128 yX0_columnOf, Cond.instanceMethod yX0_columnOf, Cond.selects RX0 yX0_columnOf yX0_columnOf, Cond.code yX0_columnOf cX0_columnOf 2 (some .int), Cond.fieldLink RX0 13 "LocalBounds" "width" "I", Cond.methodLink RX0 131 yX0_rowOf, Cond.instanceMethod yX0_rowOf]
def wsL_join_r2 : List Cond := [Cond.selects RX0 yX0_rowOf yX0_rowOf, Cond.code yX0_rowOf cX0_rowOf 2 (some .int), Cond.methodLink RX0 134 yX0_blackenRound, Cond.instanceMethod yX0_blackenRound, Cond.selects RX0 yX0_blackenRound yX0_blackenRound, Cond.code yX0_blackenRound cX0_blackenRound 6 none, Cond.methodLink RX0 50 yX0_isInside, Cond.instanceMethod yX0_isInside, Cond.selects RX0 yX0_isInside yX0_isInside, Cond.code yX0_isInside cX0_isInside 3 (some .boolean), Cond.fieldLink RX0 17 "LocalBounds" "height" "I", Cond.methodLink RX0 66 yX0_placeOf, Cond.instanceMethod yX0_placeOf, Cond.selects RX0 yX0_placeOf yX0_placeOf, Cond.code yX0_placeOf cX0_placeOf 3 (some .int), Cond.methodLink RX0 194 yX0_blackenUpTo, Cond.instanceMethod yX0_blackenUpTo, Cond.selects RX0 yX0_blackenUpTo yX0_blackenUpTo, Cond.code yX0_blackenUpTo cX0_blackenUpTo 3 none, Cond.methodLink RX0 90 yX0_countBlack, Cond.instanceMethod yX0_countBlack, Cond.selects RX0 yX0_countBlack yX0_countBlack, Cond.code yX0_countBlack cX0_countBlack 3 (some .int)]
def wsL_join : List Cond := .codeWith yL_join cL_join 5 (some .int) [(0, 10, 13, 15)] :: ((wsL_join_r1 ++ wsL_join_r2) ++ wsX00 ++ (vx_atS RX0 65 "java/lang/IllegalArgumentException" ["java/lang/RuntimeException", "java/lang/Exception"]).filter goodWord)
def wsL_clean_r1 : List Cond := [Cond.classLink RL 15 "java/lang/IllegalArgumentException", Cond.methodLink RL 31 yX0_clean, Cond.instanceMethod yX0_clean, Cond.selects RX0 yX0_clean yX0_clean, Cond.initialized RX0, Cond.code yX0_clean cX0_clean 4 (some .int), Cond.classLink RX0 61 "java/lang/IllegalArgumentException", Cond.initialized "java/lang/IllegalArgumentException", Cond.methodLink RX0 140 yX0_turnSpecks, Cond.instanceMethod yX0_turnSpecks, Cond.selects RX0 yX0_turnSpecks yX0_turnSpecks, Cond.code yX0_turnSpecks cX0_turnSpecks 5 (some .int), Cond.fieldLink RX0 20 "LocalBounds" "count" "I", Cond.fieldLink RX0 27 "LocalBounds" "black" "[Z", Cond.fieldLink RX0 44 "LocalBounds" "marked" "[Z", Cond.methodLink RX0 201 yX0_unmarkAll, Cond.instanceMethod yX0_unmarkAll, Cond.selects RX0 yX0_unmarkAll yX0_unmarkAll, Cond.code yX0_unmarkAll cX0_unmarkAll 2 none, Cond.methodLink RX0 204 yX0_gatherPart, Cond.instanceMethod yX0_gatherPart, Cond.selects RX0 yX0_gatherPart yX0_gatherPart, Cond.code yX0_gatherPart cX0_gatherPart 6 none, Cond.fieldLink RX0 121 "LocalBounds" "queued" "I"]
def wsL_clean_r2 : List Cond := [Cond.fieldLink RX0 47 "LocalBounds" "queue" "[I", Cond.methodLink RX0 124 yX0_enqueue, Cond.instanceMethod yX0_enqueue, Cond.selects RX0 yX0_enqueue yX0_enqueue, Cond.code yX0_enqueue cX0_enqueue 2 none, Cond.methodLink RX0 128 yX0_columnOf, Cond.instanceMethod yX0_columnOf, Cond.selects RX0 yX0_columnOf yX0_columnOf, Cond.code yX0_columnOf cX0_columnOf 2 (some .int), Cond.fieldLink RX0 13 "LocalBounds" "width" "I", Cond.methodLink RX0 131 yX0_rowOf, Cond.instanceMethod yX0_rowOf, Cond.selects RX0 yX0_rowOf yX0_rowOf, Cond.code yX0_rowOf cX0_rowOf 2 (some .int), Cond.methodLink RX0 197 yX0_gather, Cond.instanceMethod yX0_gather, Cond.selects RX0 yX0_gather yX0_gather, Cond.code yX0_gather cX0_gather 5 none, Cond.methodLink RX0 50 yX0_isInside, Cond.instanceMethod yX0_isInside, Cond.selects RX0 yX0_isInside yX0_isInside, Cond.code yX0_isInside cX0_isInside 3 (some .boolean), Cond.fieldLink RX0 17 "LocalBounds" "height" "I", Cond.methodLink RX0 66 yX0_placeOf]
def wsL_clean_r3 : List Cond := [Cond.instanceMethod yX0_placeOf, Cond.selects RX0 yX0_placeOf yX0_placeOf, Cond.code yX0_placeOf cX0_placeOf 3 (some .int), Cond.methodLink RX0 208 yX0_isSpeck, Cond.instanceMethod yX0_isSpeck, Cond.selects RX0 yX0_isSpeck yX0_isSpeck, Cond.code yX0_isSpeck cX0_isSpeck 3 (some .boolean), Cond.methodLink RX0 216 yX0_queuedComeToEdge, Cond.instanceMethod yX0_queuedComeToEdge, Cond.selects RX0 yX0_queuedComeToEdge yX0_queuedComeToEdge, Cond.code yX0_queuedComeToEdge cX0_queuedComeToEdge 4 (some .boolean), Cond.methodLink RX0 212 yX0_turnQueued, Cond.instanceMethod yX0_turnQueued, Cond.selects RX0 yX0_turnQueued yX0_turnQueued, Cond.code yX0_turnQueued cX0_turnQueued 3 (some .int)]
def wsL_clean : List Cond := .codeWith yL_clean cL_clean 4 (some .int) [(0, 9, 12, 15)] :: ((wsL_clean_r1 ++ (wsL_clean_r2 ++ wsL_clean_r3)) ++ wsX00 ++ (vx_atS RX0 65 "java/lang/IllegalArgumentException" ["java/lang/RuntimeException", "java/lang/Exception"]).filter goodWord)
def wsL_at : List Cond := .codeWith yL_at cL_at 5 (some .int) [(0, 17, 20, 13)] :: ([.classLink RL 13 "java/lang/IndexOutOfBoundsException", .methodLink RL 34 yX0_at, .instanceMethod yX0_at, .selects RX0 yX0_at yX0_at, .initialized RX0, .code yX0_at cX0_at 3 (some .boolean), .classLink RX0 54 "java/lang/IndexOutOfBoundsException", .initialized "java/lang/IndexOutOfBoundsException", .fieldLink RX0 27 "LocalBounds" "black" "[Z", .methodLink RX0 50 yX0_isInside, .instanceMethod yX0_isInside, .selects RX0 yX0_isInside yX0_isInside, .code yX0_isInside cX0_isInside 3 (some .boolean), .fieldLink RX0 13 "LocalBounds" "width" "I", .fieldLink RX0 17 "LocalBounds" "height" "I", .methodLink RX0 66 yX0_placeOf, .instanceMethod yX0_placeOf, .selects RX0 yX0_placeOf yX0_placeOf, .code yX0_placeOf cX0_placeOf 3 (some .int)] ++ wsX00 ++ (vx_atS RX0 58 "java/lang/IndexOutOfBoundsException" ["java/lang/RuntimeException", "java/lang/Exception"]).filter goodWord)
def wsL_sum_r1 : List Cond := [Cond.classLink RL 15 "java/lang/IllegalArgumentException", Cond.methodLink RL 38 yX0_sum, Cond.instanceMethod yX0_sum, Cond.selects RX0 yX0_sum yX0_sum, Cond.initialized RX0, Cond.code yX0_sum cX0_sum 6 (some .long), Cond.classLink RX0 61 "java/lang/IllegalArgumentException", Cond.initialized "java/lang/IllegalArgumentException", Cond.fieldLink RX0 13 "LocalBounds" "width" "I", Cond.fieldLink RX0 17 "LocalBounds" "height" "I", Cond.fieldLink RX0 41 "LocalBounds" "squareSums" "[J", Cond.fieldLink RX0 37 "LocalBounds" "sums" "[J", Cond.methodLink RX0 147 yX0_isPart, Cond.static yX0_isPart, Cond.code yX0_isPart cX0_isPart 3 (some .boolean), Cond.methodLink RX0 83 yX0_fillSums, Cond.instanceMethod yX0_fillSums, Cond.selects RX0 yX0_fillSums yX0_fillSums, Cond.code yX0_fillSums cX0_fillSums 11 none, Cond.fieldLink RX0 23 "LocalBounds" "samples" "[I", Cond.methodLink RX0 66 yX0_placeOf, Cond.instanceMethod yX0_placeOf, Cond.selects RX0 yX0_placeOf yX0_placeOf, Cond.code yX0_placeOf cX0_placeOf 3 (some .int)]
def wsL_sum_r2 : List Cond := [Cond.methodLink RX0 178 yX0_cornerOf, Cond.instanceMethod yX0_cornerOf, Cond.selects RX0 yX0_cornerOf yX0_cornerOf, Cond.code yX0_cornerOf cX0_cornerOf 3 (some .int), Cond.methodLink RX0 153 yX0_sumBetween, Cond.instanceMethod yX0_sumBetween, Cond.selects RX0 yX0_sumBetween yX0_sumBetween, Cond.code yX0_sumBetween cX0_sumBetween 10 (some .long)]
def wsL_sum : List Cond := .codeWith yL_sum cL_sum 8 (some .int) [(0, 15, 18, 15)] :: ((wsL_sum_r1 ++ wsL_sum_r2) ++ wsX00 ++ (vx_atS RX0 65 "java/lang/IllegalArgumentException" ["java/lang/RuntimeException", "java/lang/Exception"]).filter goodWord)
def wsL_cell_ : List Cond := .codeWith yL_cell_ cL_cell_ 6 (some .int) [(0, 12, 15, 15)] :: ([.classLink RL 15 "java/lang/IllegalArgumentException", .methodLink RL 42 yX0_cell, .instanceMethod yX0_cell, .selects RX0 yX0_cell yX0_cell, .initialized RX0, .code yX0_cell cX0_cell 4 (some .int), .classLink RX0 61 "java/lang/IllegalArgumentException", .initialized "java/lang/IllegalArgumentException", .methodLink RX0 109 yX0_isCells, .static yX0_isCells, .code yX0_isCells cX0_isCells 1 (some .boolean), .methodLink RX0 115 yX0_cellNumber, .static yX0_cellNumber, .code yX0_cellNumber cX0_cellNumber 5 (some .int), .methodLink RX0 190 yX0_quarterNumber, .static yX0_quarterNumber, .code yX0_quarterNumber cX0_quarterNumber 2 (some .int)] ++ (vx_atS RX0 65 "java/lang/IllegalArgumentException" ["java/lang/RuntimeException", "java/lang/Exception"]).filter goodWord)
def wsL_law0_r1 : List Cond := [Cond.classLink RL 8 RX0, Cond.instantiable RX0 13, Cond.initialized RX0, Cond.classLink RL 53 RX1, Cond.instantiable RX1 9, Cond.initialized RX1, Cond.arrayClass .long, Cond.methodLink RL 45 yL_cell, Cond.static yL_cell, Cond.initialized RL, Cond.code yL_cell cL_cell 2 (some .int), Cond.methodLink RL 50 yX0_init, Cond.instanceMethod yX0_init, Cond.code yX0_init cX0_init 3 none, Cond.methodLink RX0 1 objectInit, Cond.instanceMethod objectInit, Cond.code objectInit ⟨#[0xb1]⟩ 1 none, Cond.fieldLink RX0 13 "LocalBounds" "width" "I", Cond.fieldLink RX0 17 "LocalBounds" "height" "I", Cond.fieldLink RX0 20 "LocalBounds" "count" "I", Cond.arrayClass .int, Cond.fieldLink RX0 23 "LocalBounds" "samples" "[I", Cond.arrayClass .boolean, Cond.fieldLink RX0 27 "LocalBounds" "black" "[Z"]
def wsL_law0_r2 : List Cond := [Cond.fieldLink RX0 31 "LocalBounds" "ofGrey" "[I", Cond.fieldLink RX0 34 "LocalBounds" "came" "[I", Cond.fieldLink RX0 37 "LocalBounds" "sums" "[J", Cond.fieldLink RX0 41 "LocalBounds" "squareSums" "[J", Cond.fieldLink RX0 44 "LocalBounds" "marked" "[Z", Cond.fieldLink RX0 47 "LocalBounds" "queue" "[I", Cond.methodLink RX0 7 yX0_nearestSide, Cond.static yX0_nearestSide, Cond.code yX0_nearestSide cX0_nearestSide 1 (some .int), Cond.methodLink RX0 165 Lib.Math.min.name, Cond.static Lib.Math.min.name, Cond.initialized "java/lang/Math", Cond.code Lib.Math.min.name Lib.Math.min.code 2 (some .int), Cond.methodLink RX0 168 Lib.Math.max.name, Cond.static Lib.Math.max.name, Cond.code Lib.Math.max.name Lib.Math.max.code 2 (some .int), Cond.methodLink RL 55 yX1_init, Cond.instanceMethod yX1_init, Cond.code yX1_init cX1_init 3 none, Cond.methodLink RX1 1 objectInit, Cond.fieldLink RX1 7 "LocalBoundsModel" "samples" "[I", Cond.fieldLink RX1 13 "LocalBoundsModel" "black" "[Z", Cond.fieldLink RX1 17 "LocalBoundsModel" "next" "[Z", Cond.fieldLink RX1 20 "LocalBoundsModel" "came" "[I"]
def wsL_law0_r3 : List Cond := [Cond.fieldLink RX1 23 "LocalBoundsModel" "part" "[I", Cond.fieldLink RX1 26 "LocalBoundsModel" "width" "I", Cond.fieldLink RX1 30 "LocalBoundsModel" "height" "I", Cond.methodLink RL 56 yL_put, Cond.static yL_put, Cond.codeWith yL_put cL_put 6 (some .int) [(0, 12, 15, 13), (0, 12, 19, 15)], Cond.classLink RL 13 "java/lang/IndexOutOfBoundsException", Cond.classLink RL 15 "java/lang/IllegalArgumentException", Cond.methodLink RL 7 yX0_put, Cond.instanceMethod yX0_put, Cond.selects RX0 yX0_put yX0_put, Cond.code yX0_put cX0_put 6 (some .int), Cond.classLink RX0 54 "java/lang/IndexOutOfBoundsException", Cond.initialized "java/lang/IndexOutOfBoundsException", Cond.classLink RX0 61 "java/lang/IllegalArgumentException", Cond.initialized "java/lang/IllegalArgumentException", Cond.methodLink RX0 50 yX0_isInside, Cond.instanceMethod yX0_isInside, Cond.selects RX0 yX0_isInside yX0_isInside, Cond.code yX0_isInside cX0_isInside 3 (some .boolean), Cond.methodLink RX0 66 yX0_placeOf, Cond.instanceMethod yX0_placeOf, Cond.selects RX0 yX0_placeOf yX0_placeOf, Cond.code yX0_placeOf cX0_placeOf 3 (some .int)]
def wsL_law0_r4 : List Cond := [Cond.methodLink RL 59 yX1_put, Cond.instanceMethod yX1_put, Cond.selects RX1 yX1_put yX1_put, Cond.code yX1_put cX1_put 5 (some .int), Cond.fieldLink RX1 33 "LocalBoundsModel" "thrown" "I", Cond.methodLink RX1 36 yX1_isIn, Cond.instanceMethod yX1_isIn, Cond.selects RX1 yX1_isIn yX1_isIn, Cond.code yX1_isIn cX1_isIn 3 (some .boolean), Cond.methodLink RL 60 yX1_thrown, Cond.instanceMethod yX1_thrown, Cond.selects RX1 yX1_thrown yX1_thrown, Cond.code yX1_thrown cX1_thrown 1 (some .int), Cond.methodLink RL 64 yX0_paint, Cond.instanceMethod yX0_paint, Cond.selects RX0 yX0_paint yX0_paint, Cond.code yX0_paint cX0_paint 7 (some .int), Cond.methodLink RX0 70 yJ9_floorMod_7cf53, Cond.static yJ9_floorMod_7cf53, Cond.initialized RJ9, Cond.code yJ9_floorMod_7cf53 cJ9_floorMod_7cf53 3 (some .int), Cond.methodLink RL 67 yX1_paint, Cond.instanceMethod yX1_paint, Cond.selects RX1 yX1_paint yX1_paint]
def wsL_law0_r5 : List Cond := [Cond.code yX1_paint cX1_paint 6 (some .int), Cond.methodLink RX1 40 yX1_all, Cond.instanceMethod yX1_all, Cond.selects RX1 yX1_all yX1_all, Cond.code yX1_all cX1_all 1 (some .int), Cond.methodLink RL 68 yX0_global, Cond.instanceMethod yX0_global, Cond.selects RX0 yX0_global yX0_global, Cond.code yX0_global cX0_global 3 (some .int), Cond.methodLink RX0 75 yX0_bestBound, Cond.instanceMethod yX0_bestBound, Cond.selects RX0 yX0_bestBound yX0_bestBound, Cond.code yX0_bestBound cX0_bestBound 21 (some .int), Cond.methodLink RX0 171 yX0_fillOfGrey, Cond.instanceMethod yX0_fillOfGrey, Cond.selects RX0 yX0_fillOfGrey yX0_fillOfGrey, Cond.code yX0_fillOfGrey cX0_fillOfGrey 3 none, Cond.methodLink RX0 95 yJ7_fill_53178, Cond.static yJ7_fill_53178, Cond.initialized RJ7, Cond.code yJ7_fill_53178 cJ7_fill_53178 4 none, Cond.methodLink RX0 174 yX0_sumOfSamples, Cond.instanceMethod yX0_sumOfSamples, Cond.selects RX0 yX0_sumOfSamples yX0_sumOfSamples]
def wsL_law0_r6 : List Cond := [Cond.code yX0_sumOfSamples cX0_sumOfSamples 4 (some .long), Cond.methodLink RL 71 yX1_global, Cond.instanceMethod yX1_global, Cond.selects RX1 yX1_global yX1_global, Cond.code yX1_global cX1_global 17 (some .int), Cond.methodLink RL 72 yL_local, Cond.static yL_local, Cond.codeWith yL_local cL_local 5 (some .int) [(0, 10, 13, 15)], Cond.methodLink RL 17 yX0_local, Cond.instanceMethod yX0_local, Cond.selects RX0 yX0_local yX0_local, Cond.code yX0_local cX0_local 6 (some .int), Cond.methodLink RX0 83 yX0_fillSums, Cond.instanceMethod yX0_fillSums, Cond.selects RX0 yX0_fillSums yX0_fillSums, Cond.code yX0_fillSums cX0_fillSums 11 none, Cond.methodLink RX0 178 yX0_cornerOf, Cond.instanceMethod yX0_cornerOf, Cond.selects RX0 yX0_cornerOf yX0_cornerOf, Cond.code yX0_cornerOf cX0_cornerOf 3 (some .int), Cond.methodLink RX0 86 yX0_isDarkInWindow, Cond.instanceMethod yX0_isDarkInWindow, Cond.selects RX0 yX0_isDarkInWindow yX0_isDarkInWindow, Cond.code yX0_isDarkInWindow cX0_isDarkInWindow 20 (some .boolean)]
def wsL_law0_r7 : List Cond := [Cond.constantLong RX0 181 (256), Cond.methodLink RX0 153 yX0_sumBetween, Cond.instanceMethod yX0_sumBetween, Cond.selects RX0 yX0_sumBetween yX0_sumBetween, Cond.code yX0_sumBetween cX0_sumBetween 10 (some .long), Cond.methodLink RX0 90 yX0_countBlack, Cond.instanceMethod yX0_countBlack, Cond.selects RX0 yX0_countBlack yX0_countBlack, Cond.code yX0_countBlack cX0_countBlack 3 (some .int), Cond.methodLink RL 75 yX1_local, Cond.instanceMethod yX1_local, Cond.selects RX1 yX1_local yX1_local, Cond.code yX1_local cX1_local 5 (some .int), Cond.methodLink RX1 48 yX1_isDark, Cond.instanceMethod yX1_isDark, Cond.selects RX1 yX1_isDark yX1_isDark, Cond.code yX1_isDark cX1_isDark 17 (some .boolean), Cond.constantLong RX1 44 (128), Cond.constantLong RX1 46 (256), Cond.methodLink RX1 52 yX1_blacks, Cond.instanceMethod yX1_blacks, Cond.selects RX1 yX1_blacks yX1_blacks, Cond.code yX1_blacks cX1_blacks 3 (some .int), Cond.methodLink RL 76 yL_spread]
def wsL_law0_r8 : List Cond := [Cond.static yL_spread, Cond.codeWith yL_spread cL_spread 4 (some .int) [(0, 9, 12, 15)], Cond.methodLink RL 21 yX0_spread, Cond.instanceMethod yX0_spread, Cond.selects RX0 yX0_spread yX0_spread, Cond.code yX0_spread cX0_spread 3 (some .int), Cond.fieldLink RX0 101 "LocalBounds" "lost" "J", Cond.methodLink RX0 105 yX0_spreadRow, Cond.instanceMethod yX0_spreadRow, Cond.selects RX0 yX0_spreadRow yX0_spreadRow, Cond.code yX0_spreadRow cX0_spreadRow 7 none, Cond.methodLink RX0 183 yX0_spreadSample, Cond.instanceMethod yX0_spreadSample, Cond.selects RX0 yX0_spreadSample yX0_spreadSample, Cond.code yX0_spreadSample cX0_spreadSample 11 none, Cond.methodLink RX0 187 yX0_passTo, Cond.instanceMethod yX0_passTo, Cond.selects RX0 yX0_passTo yX0_passTo, Cond.code yX0_passTo cX0_passTo 4 none, Cond.methodLink RL 79 yX1_spread, Cond.instanceMethod yX1_spread, Cond.selects RX1 yX1_spread yX1_spread, Cond.code yX1_spread cX1_spread 11 (some .int), Cond.fieldLink RX1 55 "LocalBoundsModel" "rest" "J"]
def wsL_law0_r9 : List Cond := [Cond.methodLink RX1 59 yX1_pass, Cond.instanceMethod yX1_pass, Cond.selects RX1 yX1_pass yX1_pass, Cond.code yX1_pass cX1_pass 4 none, Cond.methodLink RL 80 yX0_rest, Cond.instanceMethod yX0_rest, Cond.selects RX0 yX0_rest yX0_rest, Cond.code yX0_rest cX0_rest 1 (some .long), Cond.methodLink RL 84 yX1_rest, Cond.instanceMethod yX1_rest, Cond.selects RX1 yX1_rest yX1_rest, Cond.code yX1_rest cX1_rest 1 (some .long), Cond.methodLink RL 85 yL_ordered, Cond.static yL_ordered, Cond.codeWith yL_ordered cL_ordered 4 (some .int) [(0, 9, 12, 15)], Cond.methodLink RL 25 yX0_ordered, Cond.instanceMethod yX0_ordered, Cond.selects RX0 yX0_ordered yX0_ordered, Cond.code yX0_ordered cX0_ordered 6 (some .int), Cond.methodLink RX0 109 yX0_isCells, Cond.static yX0_isCells, Cond.code yX0_isCells cX0_isCells 1 (some .boolean), Cond.methodLink RX0 115 yX0_cellNumber, Cond.static yX0_cellNumber]
def wsL_law0_r10 : List Cond := [Cond.code yX0_cellNumber cX0_cellNumber 5 (some .int), Cond.methodLink RX0 190 yX0_quarterNumber, Cond.static yX0_quarterNumber, Cond.code yX0_quarterNumber cX0_quarterNumber 2 (some .int), Cond.methodLink RL 87 yX1_ordered, Cond.instanceMethod yX1_ordered, Cond.selects RX1 yX1_ordered yX1_ordered, Cond.code yX1_ordered cX1_ordered 4 (some .int), Cond.methodLink RX1 63 yX1_isCells, Cond.static yX1_isCells, Cond.code yX1_isCells cX1_isCells 1 (some .boolean), Cond.methodLink RX1 67 yX1_cellOf, Cond.static yX1_cellOf, Cond.code yX1_cellOf cX1_cellOf 7 (some .int), Cond.methodLink RL 88 yL_join, Cond.static yL_join, Cond.codeWith yL_join cL_join 5 (some .int) [(0, 10, 13, 15)], Cond.methodLink RL 28 yX0_join, Cond.instanceMethod yX0_join, Cond.selects RX0 yX0_join yX0_join, Cond.code yX0_join cX0_join 4 (some .int), Cond.fieldLink RX0 121 "LocalBounds" "queued" "I", Cond.methodLink RX0 124 yX0_enqueue, Cond.instanceMethod yX0_enqueue]
def wsL_law0_r11 : List Cond := [Cond.selects RX0 yX0_enqueue yX0_enqueue, Cond.code yX0_enqueue cX0_enqueue 2 none, Cond.methodLink RX0 128 yX0_columnOf, Cond.instanceMethod yX0_columnOf, Cond.selects RX0 yX0_columnOf yX0_columnOf, Cond.code yX0_columnOf cX0_columnOf 2 (some .int), Cond.methodLink RX0 131 yX0_rowOf, Cond.instanceMethod yX0_rowOf, Cond.selects RX0 yX0_rowOf yX0_rowOf, Cond.code yX0_rowOf cX0_rowOf 2 (some .int), Cond.methodLink RX0 134 yX0_blackenRound, Cond.instanceMethod yX0_blackenRound, Cond.selects RX0 yX0_blackenRound yX0_blackenRound, Cond.code yX0_blackenRound cX0_blackenRound 6 none, Cond.methodLink RX0 194 yX0_blackenUpTo, Cond.instanceMethod yX0_blackenUpTo, Cond.selects RX0 yX0_blackenUpTo yX0_blackenUpTo, Cond.code yX0_blackenUpTo cX0_blackenUpTo 3 none, Cond.methodLink RL 90 yX1_join, Cond.instanceMethod yX1_join, Cond.selects RX1 yX1_join yX1_join, Cond.code yX1_join cX1_join 6 (some .int), Cond.methodLink RX1 71 yX1_touchesBlack, Cond.instanceMethod yX1_touchesBlack]
def wsL_law0_r12 : List Cond := [Cond.selects RX1 yX1_touchesBlack yX1_touchesBlack, Cond.code yX1_touchesBlack cX1_touchesBlack 6 (some .boolean), Cond.methodLink RL 91 yL_clean, Cond.static yL_clean, Cond.codeWith yL_clean cL_clean 4 (some .int) [(0, 9, 12, 15)], Cond.methodLink RL 31 yX0_clean, Cond.instanceMethod yX0_clean, Cond.selects RX0 yX0_clean yX0_clean, Cond.code yX0_clean cX0_clean 4 (some .int), Cond.methodLink RX0 140 yX0_turnSpecks, Cond.instanceMethod yX0_turnSpecks, Cond.selects RX0 yX0_turnSpecks yX0_turnSpecks, Cond.code yX0_turnSpecks cX0_turnSpecks 5 (some .int), Cond.methodLink RX0 201 yX0_unmarkAll, Cond.instanceMethod yX0_unmarkAll, Cond.selects RX0 yX0_unmarkAll yX0_unmarkAll, Cond.code yX0_unmarkAll cX0_unmarkAll 2 none, Cond.methodLink RX0 204 yX0_gatherPart, Cond.instanceMethod yX0_gatherPart, Cond.selects RX0 yX0_gatherPart yX0_gatherPart, Cond.code yX0_gatherPart cX0_gatherPart 6 none, Cond.methodLink RX0 197 yX0_gather, Cond.instanceMethod yX0_gather, Cond.selects RX0 yX0_gather yX0_gather]
def wsL_law0_r13 : List Cond := [Cond.code yX0_gather cX0_gather 5 none, Cond.methodLink RX0 208 yX0_isSpeck, Cond.instanceMethod yX0_isSpeck, Cond.selects RX0 yX0_isSpeck yX0_isSpeck, Cond.code yX0_isSpeck cX0_isSpeck 3 (some .boolean), Cond.methodLink RX0 216 yX0_queuedComeToEdge, Cond.instanceMethod yX0_queuedComeToEdge, Cond.selects RX0 yX0_queuedComeToEdge yX0_queuedComeToEdge, Cond.code yX0_queuedComeToEdge cX0_queuedComeToEdge 4 (some .boolean), Cond.methodLink RX0 212 yX0_turnQueued, Cond.instanceMethod yX0_turnQueued, Cond.selects RX0 yX0_turnQueued yX0_turnQueued, Cond.code yX0_turnQueued cX0_turnQueued 3 (some .int), Cond.methodLink RL 93 yX1_clean, Cond.instanceMethod yX1_clean, Cond.selects RX1 yX1_clean yX1_clean, Cond.code yX1_clean cX1_clean 3 (some .int), Cond.methodLink RX1 82 yX1_turnSpecks, Cond.instanceMethod yX1_turnSpecks, Cond.selects RX1 yX1_turnSpecks yX1_turnSpecks, Cond.code yX1_turnSpecks cX1_turnSpecks 10 (some .int), Cond.methodLink RX1 78 yX1_findParts, Cond.instanceMethod yX1_findParts, Cond.selects RX1 yX1_findParts yX1_findParts]
def wsL_law0_r14 : List Cond := [Cond.code yX1_findParts cX1_findParts 7 none, Cond.methodLink RX1 74 yX1_lesser, Cond.instanceMethod yX1_lesser, Cond.selects RX1 yX1_lesser yX1_lesser, Cond.code yX1_lesser cX1_lesser 5 (some .int), Cond.methodLink RL 94 yX0_edges, Cond.instanceMethod yX0_edges, Cond.selects RX0 yX0_edges yX0_edges, Cond.code yX0_edges cX0_edges 3 (some .int), Cond.methodLink RX0 144 yX0_isEdge, Cond.instanceMethod yX0_isEdge, Cond.selects RX0 yX0_isEdge yX0_isEdge, Cond.code yX0_isEdge cX0_isEdge 3 (some .boolean), Cond.methodLink RX0 220 yX0_isBlack, Cond.instanceMethod yX0_isBlack, Cond.selects RX0 yX0_isBlack yX0_isBlack, Cond.code yX0_isBlack cX0_isBlack 3 (some .boolean), Cond.methodLink RL 97 yX1_edges, Cond.instanceMethod yX1_edges, Cond.selects RX1 yX1_edges yX1_edges, Cond.code yX1_edges cX1_edges 5 (some .int), Cond.methodLink RX1 86 yX1_isBlackAt, Cond.instanceMethod yX1_isBlackAt, Cond.selects RX1 yX1_isBlackAt yX1_isBlackAt]
def wsL_law0_r15 : List Cond := [Cond.code yX1_isBlackAt cX1_isBlackAt 3 (some .boolean), Cond.methodLink RL 98 yX0_invert, Cond.instanceMethod yX0_invert, Cond.selects RX0 yX0_invert yX0_invert, Cond.code yX0_invert cX0_invert 2 (some .int), Cond.methodLink RL 101 yX1_invert, Cond.instanceMethod yX1_invert, Cond.selects RX1 yX1_invert yX1_invert, Cond.code yX1_invert cX1_invert 2 (some .int), Cond.methodLink RL 102 yL_at, Cond.static yL_at, Cond.codeWith yL_at cL_at 5 (some .int) [(0, 17, 20, 13)], Cond.methodLink RL 34 yX0_at, Cond.instanceMethod yX0_at, Cond.selects RX0 yX0_at yX0_at, Cond.code yX0_at cX0_at 3 (some .boolean), Cond.methodLink RL 104 yX1_at, Cond.instanceMethod yX1_at, Cond.selects RX1 yX1_at yX1_at, Cond.code yX1_at cX1_at 3 (some .boolean), Cond.methodLink RL 105 yL_sum, Cond.static yL_sum, Cond.codeWith yL_sum cL_sum 8 (some .int) [(0, 15, 18, 15)], Cond.methodLink RL 38 yX0_sum]
def wsL_law0_r16 : List Cond := [Cond.instanceMethod yX0_sum, Cond.selects RX0 yX0_sum yX0_sum, Cond.code yX0_sum cX0_sum 6 (some .long), Cond.methodLink RX0 147 yX0_isPart, Cond.static yX0_isPart, Cond.code yX0_isPart cX0_isPart 3 (some .boolean), Cond.methodLink RL 108 yX1_sum, Cond.instanceMethod yX1_sum, Cond.selects RX1 yX1_sum yX1_sum, Cond.code yX1_sum cX1_sum 13 (some .long), Cond.methodLink RL 109 yL_cell_, Cond.static yL_cell_, Cond.codeWith yL_cell_ cL_cell_ 6 (some .int) [(0, 12, 15, 15)], Cond.methodLink RL 42 yX0_cell, Cond.instanceMethod yX0_cell, Cond.selects RX0 yX0_cell yX0_cell, Cond.code yX0_cell cX0_cell 4 (some .int), Cond.methodLink RL 111 yX1_cell, Cond.instanceMethod yX1_cell, Cond.selects RX1 yX1_cell yX1_cell, Cond.code yX1_cell cX1_cell 4 (some .int), Cond.methodLink RL 112 yX0_told, Cond.instanceMethod yX0_told, Cond.selects RX0 yX0_told yX0_told]
def wsL_law0_r17 : List Cond := [Cond.code yX0_told cX0_told 2 (some .int), Cond.methodLink RX0 159 yX0_countBlackParts, Cond.instanceMethod yX0_countBlackParts, Cond.selects RX0 yX0_countBlackParts yX0_countBlackParts, Cond.code yX0_countBlackParts cX0_countBlackParts 3 (some .int), Cond.methodLink RX0 162 yX0_countGreys, Cond.instanceMethod yX0_countGreys, Cond.selects RX0 yX0_countGreys yX0_countGreys, Cond.code yX0_countGreys cX0_countGreys 3 (some .int), Cond.methodLink RL 115 yX1_told, Cond.instanceMethod yX1_told, Cond.selects RX1 yX1_told yX1_told, Cond.code yX1_told cX1_told 2 (some .int), Cond.methodLink RX1 89 yX1_parts, Cond.instanceMethod yX1_parts, Cond.selects RX1 yX1_parts yX1_parts, Cond.code yX1_parts cX1_parts 3 (some .int), Cond.methodLink RX1 92 yX1_different, Cond.instanceMethod yX1_different, Cond.selects RX1 yX1_different yX1_different, Cond.code yX1_different cX1_different 5 (some .int), Cond.methodLink RL 116 yX0_clear, Cond.instanceMethod yX0_clear, Cond.selects RX0 yX0_clear yX0_clear]
def wsL_law0_r18 : List Cond := [Cond.code yX0_clear cX0_clear 2 none, Cond.methodLink RL 119 yX1_clear, Cond.instanceMethod yX1_clear, Cond.selects RX1 yX1_clear yX1_clear, Cond.code yX1_clear cX1_clear 2 none]
def wsL_law0 : List Cond := (wsL_law0_r1 ++ (wsL_law0_r2 ++ (wsL_law0_r3 ++ (wsL_law0_r4 ++ (wsL_law0_r5 ++ (wsL_law0_r6 ++ (wsL_law0_r7 ++ (wsL_law0_r8 ++ (wsL_law0_r9 ++ (wsL_law0_r10 ++ (wsL_law0_r11 ++ (wsL_law0_r12 ++ (wsL_law0_r13 ++ (wsL_law0_r14 ++ (wsL_law0_r15 ++ (wsL_law0_r16 ++ (wsL_law0_r17 ++ wsL_law0_r18))))))))))))))))) ++ wsX00 ++ wsX10 ++ ([] : List Cond)
def wsL_law : List Cond := wsL_law0 ++ (vx_atS RX0 58 "java/lang/IndexOutOfBoundsException" ["java/lang/RuntimeException", "java/lang/Exception"]).filter goodWord ++ (vx_atS RX0 65 "java/lang/IllegalArgumentException" ["java/lang/RuntimeException", "java/lang/Exception"]).filter goodWord

set_option maxRecDepth 20000 in
theorem q_good1 : GoodIn lw_tbl wsL_law0_r1 := goodIn_p _ [212, 56, 59] (by decide +kernel) (by decide +kernel)
set_option maxRecDepth 20000 in
theorem q_good2 : GoodIn lw_tbl wsL_law0_r2 := goodIn_p _ [62, 65, 68, 438] (by decide +kernel) (by decide +kernel)
set_option maxRecDepth 20000 in
theorem q_good3 : GoodIn lw_tbl wsL_law0_r3 := goodIn_p _ [221, 161, 149] (by decide +kernel) (by decide +kernel)
set_option maxRecDepth 20000 in
theorem q_good4 : GoodIn lw_tbl wsL_law0_r4 := goodIn_p _ [475, 479, 471, 115, 118] (by decide +kernel) (by decide +kernel)
set_option maxRecDepth 20000 in
theorem q_good5 : GoodIn lw_tbl wsL_law0_r5 := goodIn_p _ [483, 487, 122, 126, 130, 133] (by decide +kernel) (by decide +kernel)
set_option maxRecDepth 20000 in
theorem q_good6 : GoodIn lw_tbl wsL_law0_r6 := goodIn_p _ [137, 491, 311, 317, 321, 325] (by decide +kernel) (by decide +kernel)
set_option maxRecDepth 20000 in
theorem q_good7 : GoodIn lw_tbl wsL_law0_r7 := goodIn_p _ [329, 165, 495, 499, 505] (by decide +kernel) (by decide +kernel)
set_option maxRecDepth 20000 in
theorem q_good8 : GoodIn lw_tbl wsL_law0_r8 := goodIn_p _ [337, 342, 346, 350, 509] (by decide +kernel) (by decide +kernel)
set_option maxRecDepth 20000 in
theorem q_good9 : GoodIn lw_tbl wsL_law0_r9 := goodIn_p _ [513, 141, 517, 357, 360] (by decide +kernel) (by decide +kernel)
set_option maxRecDepth 20000 in
theorem q_good10 : GoodIn lw_tbl wsL_law0_r10 := goodIn_p _ [364, 367, 521, 524, 527, 374] (by decide +kernel) (by decide +kernel)
set_option maxRecDepth 20000 in
theorem q_good11 : GoodIn lw_tbl wsL_law0_r11 := goodIn_p _ [189, 193, 197, 379, 383, 535] (by decide +kernel) (by decide +kernel)
set_option maxRecDepth 20000 in
theorem q_good12 : GoodIn lw_tbl wsL_law0_r12 := goodIn_p _ [539, 390, 395, 181, 185] (by decide +kernel) (by decide +kernel)
set_option maxRecDepth 20000 in
theorem q_good13 : GoodIn lw_tbl wsL_law0_r13 := goodIn_p _ [201, 399, 403, 407, 543, 547] (by decide +kernel) (by decide +kernel)
set_option maxRecDepth 20000 in
theorem q_good14 : GoodIn lw_tbl wsL_law0_r14 := goodIn_p _ [551, 555, 145, 153, 157, 559] (by decide +kernel) (by decide +kernel)
set_option maxRecDepth 20000 in
theorem q_good15 : GoodIn lw_tbl wsL_law0_r15 := goodIn_p _ [563, 169, 567, 414, 571] (by decide +kernel) (by decide +kernel)
set_option maxRecDepth 20000 in
theorem q_good16 : GoodIn lw_tbl wsL_law0_r16 := goodIn_p _ [421, 424, 575, 432, 531] (by decide +kernel) (by decide +kernel)
set_option maxRecDepth 20000 in
theorem q_good17 : GoodIn lw_tbl wsL_law0_r17 := goodIn_p _ [173, 177, 205, 579, 583, 587] (by decide +kernel) (by decide +kernel)
set_option maxRecDepth 20000 in
theorem q_good18 : GoodIn lw_tbl wsL_law0_r18 := goodIn_p _ [209, 591] (by decide +kernel) (by decide +kernel)
theorem q_goodX0 : GoodIn lw_tbl wsX00 := goodIn_of _ (by decide +kernel)
theorem q_goodX1 : GoodIn lw_tbl wsX10 := goodIn_of _ (by decide +kernel)
theorem q_goodL0 : GoodIn lw_tbl wsL_law0 := goodIn_app (goodIn_app (goodIn_app (goodIn_app q_good1 (goodIn_app q_good2 (goodIn_app q_good3 (goodIn_app q_good4 (goodIn_app q_good5 (goodIn_app q_good6 (goodIn_app q_good7 (goodIn_app q_good8 (goodIn_app q_good9 (goodIn_app q_good10 (goodIn_app q_good11 (goodIn_app q_good12 (goodIn_app q_good13 (goodIn_app q_good14 (goodIn_app q_good15 (goodIn_app q_good16 (goodIn_app q_good17 q_good18))))))))))))))))) q_goodX0) q_goodX1) (fun w h => absurd h List.not_mem_nil)
theorem q_goodE0 : GoodIn lw_tbl ((vx_atS RX0 58 "java/lang/IndexOutOfBoundsException" ["java/lang/RuntimeException", "java/lang/Exception"]).filter goodWord) := goodIn_of _ (by decide +kernel)
theorem q_goodE1 : GoodIn lw_tbl ((vx_atS RX0 65 "java/lang/IllegalArgumentException" ["java/lang/RuntimeException", "java/lang/Exception"]).filter goodWord) := goodIn_of _ (by decide +kernel)
theorem q_goodL : GoodIn lw_tbl wsL_law := goodIn_app (goodIn_app q_goodL0 q_goodE0) q_goodE1
theorem wsL_law_in : ∀ w ∈ wsL_law, w ∈ lw_tbl := fun w h => (q_goodL w h).1
theorem inlX0 : ∀ w ∈ wsX00, w ∈ wsL_law := fun _ h => List.mem_append_left _ (List.mem_append_left _ (List.mem_append_left _ (List.mem_append_left _ (List.mem_append_right _ h))))
theorem inX0 : ∀ w ∈ wsX00, w ∈ lw_tbl := fun w h => wsL_law_in w (inlX0 w h)
theorem inlX1 : ∀ w ∈ wsX10, w ∈ wsL_law := fun _ h => List.mem_append_left _ (List.mem_append_left _ (List.mem_append_left _ (List.mem_append_right _ h)))
theorem inX1 : ∀ w ∈ wsX10, w ∈ lw_tbl := fun w h => wsL_law_in w (inlX1 w h)
theorem inJx145de : ∀ w ∈ wsJx145de0, w ∈ lw_tbl := by decide +kernel
theorem inJ9 : ∀ w ∈ wsJ90, w ∈ lw_tbl := by decide +kernel
theorem inJ0 : ∀ w ∈ wsJ00, w ∈ lw_tbl := by decide +kernel
theorem inJ7 : ∀ w ∈ wsJ70, w ∈ lw_tbl := by decide +kernel
abbrev vwCl : List vw_C := [(RX0, TX0, 13), (RX1, TX1, 9)]
end
section
-- THE ABSTRACT LAYER: values, cells and worlds by their places; one row an instruction
abbrev q_V : Type := Int32 ⊕ (Int64 ⊕ Option Nat)
abbrev q_i (v : Int32) : q_V := .inl v
abbrev q_l (v : Int64) : q_V := .inr (.inl v)
abbrev q_r (k : Nat) : q_V := .inr (.inr (some k))
def q_cv (ad : Nat → Nat) : q_V → Value
  | .inl x => .int x
  | .inr (.inl x) => .long x
  | .inr (.inr none) => .null
  | .inr (.inr (some k)) => .ref (ad k)
abbrev q_E : Type := (Nat × Nat × ((Nat → Int32) ⊕ (Nat → Int64))) ⊕ (Nat × List q_V)
def q_ce (cA : Nat → ClassId) (ad : Nat → Nat) : q_E → va_E
  | .inl (t, n, .inl f) => .inl (cA t, n, .inl f)
  | .inl (t, n, .inr f) => .inl (cA t, n, .inr (.inl f))
  | .inr (k, fs) => .inr (k, fs.map (q_cv ad))
def q_cw (cA : Nat → ClassId) (ad : Nat → Nat) : Nat → List q_E → va_W
  | _, [] => []
  | k, e :: l => (ad k, q_ce cA ad e) :: q_cw cA ad (k + 1) l
theorem q_cw_get (cA : Nat → ClassId) (ad : Nat → Nat) : ∀ (l : List q_E) (o k : Nat), (q_cw cA ad o l)[k]? = (l[k]?).map (fun e => (ad (o + k), q_ce cA ad e))
  | [], o, k => by simp [q_cw]
  | e :: l, o, 0 => by simp [q_cw]
  | e :: l, o, k + 1 => by
    have h := q_cw_get cA ad l (o + 1) k
    simp only [q_cw, List.getElem?_cons_succ]
    rw [h, show o + 1 + k = o + (k + 1) by omega]
theorem q_cw_set (cA : Nat → ClassId) (ad : Nat → Nat) (e' : q_E) : ∀ (l : List q_E) (o k : Nat), q_cw cA ad o (l.set k e') = (q_cw cA ad o l).set k (ad (o + k), q_ce cA ad e')
  | [], o, k => by simp [q_cw]
  | e :: l, o, 0 => by simp [q_cw]
  | e :: l, o, k + 1 => by
    have h := q_cw_set cA ad e' l (o + 1) k
    simp only [q_cw, List.set_cons_succ]
    rw [h, show o + 1 + k = o + (k + 1) by omega]
theorem q_cw_get0 {cA : Nat → ClassId} {ad : Nat → Nat} {l : List q_E} {k : Nat} {e : q_E} (h : l[k]? = some e) : (q_cw cA ad 0 l)[k]? = some (ad k, q_ce cA ad e) := by
  rw [q_cw_get, h]; simp
theorem q_cw_set0 {cA : Nat → ClassId} {ad : Nat → Nat} {l : List q_E} {k : Nat} {e : q_E} : (q_cw cA ad 0 l).set k (ad k, q_ce cA ad e) = q_cw cA ad 0 (l.set k e) := by
  rw [q_cw_set]; simp
def q_tys (cA : Nat → ClassId) : List (ClassId × FieldType) := [(cA 0, .int), (cA 1, .long), (cA 2, .boolean)]
/-- the listed locals, by their places -/
def q_lvl (ad : Nat → Nat) : Nat → List (Option q_V) → List (Nat × Value)
  | _, [] => []
  | i, none :: l => q_lvl ad (i + 1) l
  | i, some v :: l => (i, q_cv ad v) :: q_lvl ad (i + 1) l
theorem q_lvl_mem (ad : Nat → Nat) : ∀ (l : List (Option q_V)) (i : Nat) (q : Nat × Value), q ∈ q_lvl ad i l ↔ ∃ (k : Nat) (v : q_V), l[k]? = some (some v) ∧ q = (i + k, q_cv ad v)
  | [], i, q => by simp [q_lvl]
  | none :: l, i, q => by
    rw [q_lvl, q_lvl_mem ad l (i + 1) q]
    constructor
    · rintro ⟨k, v, h, rfl⟩
      exact ⟨k + 1, v, by simpa using h, by rw [show i + 1 + k = i + (k + 1) by omega]⟩
    · rintro ⟨k, v, h, rfl⟩
      cases k with
      | zero => simp at h
      | succ k => exact ⟨k, v, by simpa using h, by rw [show i + 1 + k = i + (k + 1) by omega]⟩
  | some u :: l, i, q => by
    rw [q_lvl, List.mem_cons, q_lvl_mem ad l (i + 1) q]
    constructor
    · rintro (rfl | ⟨k, v, h, rfl⟩)
      · exact ⟨0, u, by simp, by simp⟩
      · exact ⟨k + 1, v, by simpa using h, by rw [show i + 1 + k = i + (k + 1) by omega]⟩
    · rintro ⟨k, v, h, rfl⟩
      cases k with
      | zero =>
        left
        simp at h
        rw [h]; simp
      | succ k => exact Or.inr ⟨k, v, by simpa using h, by rw [show i + 1 + k = i + (k + 1) by omega]⟩
theorem q_lvl_at {ad : Nat → Nat} {ls : Array Slot} {n : Nat} {l : List (Option q_V)} (h : lv_has ls n (q_lvl ad 0 l)) {k : Nat} {v : q_V} (hk : l[k]? = some (some v)) : ls[k]? = some (.val (q_cv ad v)) :=
  h.2.2 (k, q_cv ad v) ((q_lvl_mem ad l 0 _).mpr ⟨k, v, hk, by simp⟩)
theorem q_has_sub {ls : Array Slot} {n : Nat} {l l' : List (Nat × Value)} (h : lv_has ls n l) (hs : ∀ q ∈ l', q ∈ l) : lv_has ls n l' := ⟨h.1, h.2.1, fun q hq => h.2.2 q (hs q hq)⟩
def q_nol : Option q_V → Bool
  | some (.inr (.inl _)) => false
  | _ => true
theorem q_cat2 {ad : Nat → Nat} {v : q_V} (h : (q_cv ad v).category = 2) : q_nol (some v) = false := by
  rcases v with x | x | (_ | k) <;> simp [q_cv, Value.category, q_nol] at h ⊢
theorem q_cat2' {ad : Nat → Nat} {v : q_V} : ((q_cv ad v).category == 2) = !q_nol (some v) := by
  rcases v with x | x | (_ | k) <;> simp [q_cv, Value.category, q_nol]
/-- the place ahead holds no long -/
def q_fre : Nat → List (Option q_V) → Bool
  | 0, _ => true
  | i + 1, l => match l[i]? with
    | some o => q_nol o
    | none => true
theorem q_st1 {ad : Nat → Nat} {lv : List (Option q_V)} {i : Nat} {v : q_V} (hp : q_fre i lv = true) {q : Nat × Value} (h : q ∈ q_lvl ad 0 (lv.set i (some v))) : q ∈ (i, q_cv ad v) :: (q_lvl ad 0 lv).filter (fun q => !(q.1 == i) && !(q.1 + 1 == i && q.2.category == 2)) := by
  obtain ⟨k, u, hk, rfl⟩ := (q_lvl_mem ad _ 0 _).mp h
  rw [List.getElem?_set] at hk
  by_cases e : i = k
  · subst e
    simp only [if_true] at hk
    split at hk
    · cases hk; simp
    · cases hk
  · rw [if_neg e] at hk
    refine List.mem_cons_of_mem _ (List.mem_filter.mpr ⟨(q_lvl_mem ad _ 0 _).mpr ⟨k, u, hk, rfl⟩, ?_⟩)
    simp only [Nat.zero_add]
    have h1 : (k == i) = false := by simp; omega
    rw [h1]
    by_cases h2 : k + 1 = i
    · subst h2
      simp only [q_fre, hk] at hp
      rw [q_cat2', hp]; simp
    · have h3 : (k + 1 == i) = false := by simp; omega
      rw [h3]; rfl
theorem q_st2 {ad : Nat → Nat} {lv : List (Option q_V)} {i : Nat} {v : q_V} (hp : q_fre i lv = true) {q : Nat × Value} (h : q ∈ q_lvl ad 0 ((lv.set i (some v)).set (i + 1) none)) : q ∈ (i, q_cv ad v) :: (q_lvl ad 0 lv).filter (fun q => !(q.1 == i) && (!(q.1 == i + 1) && !(q.1 + 1 == i && q.2.category == 2))) := by
  obtain ⟨k, u, hk, rfl⟩ := (q_lvl_mem ad _ 0 _).mp h
  rw [List.getElem?_set] at hk
  by_cases e : i + 1 = k
  · subst e
    simp only [if_true] at hk
    split at hk
    · cases hk
    · cases hk
  · rw [if_neg e, List.getElem?_set] at hk
    by_cases e2 : i = k
    · subst e2
      simp only [if_true] at hk
      split at hk
      · cases hk; simp
      · cases hk
    · rw [if_neg e2] at hk
      refine List.mem_cons_of_mem _ (List.mem_filter.mpr ⟨(q_lvl_mem ad _ 0 _).mpr ⟨k, u, hk, rfl⟩, ?_⟩)
      simp only [Nat.zero_add]
      have h1 : (k == i) = false := by simp; omega
      have h4 : (k == i + 1) = false := by simp; omega
      rw [h1, h4]
      by_cases h2 : k + 1 = i
      · subst h2
        simp only [q_fre, hk] at hp
        rw [q_cat2', hp]; simp
      · have h3 : (k + 1 == i) = false := by simp; omega
        rw [h3]; rfl
abbrev q_X : Type := Program × Launch × Env × Room × State × MethodId × Array Value × List Frame × Method × Code × (Nat → Prop) × Heap × Nat × Nat × (State → Prop) × va_G × (Nat → ClassId) × (Nat → Nat)
def q_W (x : q_X) (pc : Nat) (lv : List (Option q_V)) (st : List q_V) (Wd : List q_E) : Prop := match x with
  | (p, l, e, R, s, m, args, below, meth, c, A, H0, cells, slots, Q, D, cA, ad) => ∀ (H : Heap) (locs : List Loc) (ls : Array Slot), lv_has ls lv.length (q_lvl ad 0 lv) → lv.length = c.maxLocals → va_P D vwCl (q_cw cA ad 0 Wd) H → va_D A (q_cw cA ad 0 Wd) → va_S A H0 H locs → W p l e R s m args below meth c H locs cells slots Q (F0 m pc ls (st.map (q_cv ad)))
def q_ok (x : q_X) (cc : ByteArray) (own : String) (fr lo : Nat) : Prop := match x with
  | (p, l, e, R, s, m, args, below, meth, c, A, H0, cells, slots, Q, D, cA, ad) => p.tables.exec = Jvm.exec ∧ c.code = cc ∧ s.vm.findClass own = some m.cls ∧ (∀ w ∈ wsL_law, w.before args s = true) ∧ va_K D vwCl (q_tys cA) s ∧ (∀ q : Nat, H0.size ≤ q → A q) ∧ fr ≤ R.frames ∧ lo ≤ R.locals ∧ cells ≤ R.cells ∧ slots ≤ R.slots

theorem q_iconst {x : q_X} {cc : ByteArray} {own : String} {fr lo pc : Nat} {lv : List (Option q_V)} {st : List q_V} {Wd : List q_E} {n : Int} (ok : q_ok x cc own fr lo) (hd : decode cc pc = .ok (.iconst n, 1)) (kk : q_W x (pc + 1) lv (.inl (Int32.ofInt n) :: st) Wd) : q_W x pc lv (st) Wd := by
  obtain ⟨p, l, e, R, s, m, args, below, meth, c, A, H0, cells, slots, Q, D, cA, ad⟩ := x
  obtain ⟨hx, hb, hown, hts, hK, hA, hfr, hlo, hce, hsl⟩ := ok
  intro H locs ls hl hn hP hD hS
  exact lv_iconst hx hb hd rfl (kk H locs ls hl hn hP hD hS)
theorem q_bipush {x : q_X} {cc : ByteArray} {own : String} {fr lo pc : Nat} {lv : List (Option q_V)} {st : List q_V} {Wd : List q_E} {n : Int} (ok : q_ok x cc own fr lo) (hd : decode cc pc = .ok (.bipush n, 2)) (kk : q_W x (pc + 2) lv (.inl ((Int8.ofInt n).toInt32) :: st) Wd) : q_W x pc lv (st) Wd := by
  obtain ⟨p, l, e, R, s, m, args, below, meth, c, A, H0, cells, slots, Q, D, cA, ad⟩ := x
  obtain ⟨hx, hb, hown, hts, hK, hA, hfr, hlo, hce, hsl⟩ := ok
  intro H locs ls hl hn hP hD hS
  exact lv_bipush hx hb hd rfl (kk H locs ls hl hn hP hD hS)
theorem q_sipush {x : q_X} {cc : ByteArray} {own : String} {fr lo pc : Nat} {lv : List (Option q_V)} {st : List q_V} {Wd : List q_E} {n : Int} (ok : q_ok x cc own fr lo) (hd : decode cc pc = .ok (.sipush n, 3)) (kk : q_W x (pc + 3) lv (.inl ((Int16.ofInt n).toInt32) :: st) Wd) : q_W x pc lv (st) Wd := by
  obtain ⟨p, l, e, R, s, m, args, below, meth, c, A, H0, cells, slots, Q, D, cA, ad⟩ := x
  obtain ⟨hx, hb, hown, hts, hK, hA, hfr, hlo, hce, hsl⟩ := ok
  intro H locs ls hl hn hP hD hS
  exact lv_sipush hx hb hd rfl (kk H locs ls hl hn hP hD hS)
theorem q_iconstv {x : q_X} {cc : ByteArray} {own : String} {fr lo pc : Nat} {lv : List (Option q_V)} {st : List q_V} {Wd : List q_E} {n : Int} (v : Int32) (ok : q_ok x cc own fr lo) (hv : Int32.ofInt n = v) (hd : decode cc pc = .ok (.iconst n, 1)) (kk : q_W x (pc + 1) lv (.inl v :: st) Wd) : q_W x pc lv (st) Wd := by
  obtain ⟨p, l, e, R, s, m, args, below, meth, c, A, H0, cells, slots, Q, D, cA, ad⟩ := x
  obtain ⟨hx, hb, hown, hts, hK, hA, hfr, hlo, hce, hsl⟩ := ok
  intro H locs ls hl hn hP hD hS
  exact lv_iconst hx hb hd hv (kk H locs ls hl hn hP hD hS)
theorem q_bipushv {x : q_X} {cc : ByteArray} {own : String} {fr lo pc : Nat} {lv : List (Option q_V)} {st : List q_V} {Wd : List q_E} {n : Int} (v : Int32) (ok : q_ok x cc own fr lo) (hv : (Int8.ofInt n).toInt32 = v) (hd : decode cc pc = .ok (.bipush n, 2)) (kk : q_W x (pc + 2) lv (.inl v :: st) Wd) : q_W x pc lv (st) Wd := by
  obtain ⟨p, l, e, R, s, m, args, below, meth, c, A, H0, cells, slots, Q, D, cA, ad⟩ := x
  obtain ⟨hx, hb, hown, hts, hK, hA, hfr, hlo, hce, hsl⟩ := ok
  intro H locs ls hl hn hP hD hS
  exact lv_bipush hx hb hd hv (kk H locs ls hl hn hP hD hS)
theorem q_sipushv {x : q_X} {cc : ByteArray} {own : String} {fr lo pc : Nat} {lv : List (Option q_V)} {st : List q_V} {Wd : List q_E} {n : Int} (v : Int32) (ok : q_ok x cc own fr lo) (hv : (Int16.ofInt n).toInt32 = v) (hd : decode cc pc = .ok (.sipush n, 3)) (kk : q_W x (pc + 3) lv (.inl v :: st) Wd) : q_W x pc lv (st) Wd := by
  obtain ⟨p, l, e, R, s, m, args, below, meth, c, A, H0, cells, slots, Q, D, cA, ad⟩ := x
  obtain ⟨hx, hb, hown, hts, hK, hA, hfr, hlo, hce, hsl⟩ := ok
  intro H locs ls hl hn hP hD hS
  exact lv_sipush hx hb hd hv (kk H locs ls hl hn hP hD hS)
theorem q_lconstv {x : q_X} {cc : ByteArray} {own : String} {fr lo pc : Nat} {lv : List (Option q_V)} {st : List q_V} {Wd : List q_E} {n : Fin 2} (v : Int64) (ok : q_ok x cc own fr lo) (hv : Int64.ofNat (n : Nat) = v) (hd : decode cc pc = .ok (.lconst n, 1)) (kk : q_W x (pc + 1) lv (.inr (.inl v) :: st) Wd) : q_W x pc lv (st) Wd := by
  obtain ⟨p, l, e, R, s, m, args, below, meth, c, A, H0, cells, slots, Q, D, cA, ad⟩ := x
  obtain ⟨hx, hb, hown, hts, hK, hA, hfr, hlo, hce, hsl⟩ := ok
  intro H locs ls hl hn hP hD hS
  exact lv_lconst hx hb hd hv (kk H locs ls hl hn hP hD hS)
theorem q_ldc2 {x : q_X} {cc : ByteArray} {own : String} {fr lo pc : Nat} {lv : List (Option q_V)} {st : List q_V} {Wd : List q_E} {ix : Nat} (v : Int64) (ok : q_ok x cc own fr lo) (hc : Cond.constantLong own ix v ∈ wsL_law) (hd : decode cc pc = .ok (.ldc2_w ix, 3)) (kk : q_W x (pc + 3) lv (.inr (.inl v) :: st) Wd) : q_W x pc lv (st) Wd := by
  obtain ⟨p, l, e, R, s, m, args, below, meth, c, A, H0, cells, slots, Q, D, cA, ad⟩ := x
  obtain ⟨hx, hb, hown, hts, hK, hA, hfr, hlo, hce, hsl⟩ := ok
  intro H locs ls hl hn hP hD hS
  exact lv_ldc2 hx hb hown (hts _ hc) hd (kk H locs ls hl hn hP hD hS)
theorem q_iload {x : q_X} {cc : ByteArray} {own : String} {fr lo pc : Nat} {lv : List (Option q_V)} {st : List q_V} {Wd : List q_E} {i : Nat} {v : Int32} (ok : q_ok x cc own fr lo) (hv : lv[i]? = some (some (.inl v))) (hd : decode cc pc = .ok (.iload i, 2)) (kk : q_W x (pc + 2) lv (.inl v :: st) Wd) : q_W x pc lv (st) Wd := by
  obtain ⟨p, l, e, R, s, m, args, below, meth, c, A, H0, cells, slots, Q, D, cA, ad⟩ := x
  obtain ⟨hx, hb, hown, hts, hK, hA, hfr, hlo, hce, hsl⟩ := ok
  intro H locs ls hl hn hP hD hS
  exact lv_iload hx hb hd (q_lvl_at hl hv) (kk H locs ls hl hn hP hD hS)
theorem q_iload_n {x : q_X} {cc : ByteArray} {own : String} {fr lo pc : Nat} {lv : List (Option q_V)} {st : List q_V} {Wd : List q_E} {i : Fin 4} {v : Int32} (ok : q_ok x cc own fr lo) (hv : lv[(i : Nat)]? = some (some (.inl v))) (hd : decode cc pc = .ok (.iload_n i, 1)) (kk : q_W x (pc + 1) lv (.inl v :: st) Wd) : q_W x pc lv (st) Wd := by
  obtain ⟨p, l, e, R, s, m, args, below, meth, c, A, H0, cells, slots, Q, D, cA, ad⟩ := x
  obtain ⟨hx, hb, hown, hts, hK, hA, hfr, hlo, hce, hsl⟩ := ok
  intro H locs ls hl hn hP hD hS
  exact lv_iload_n hx hb hd rfl (q_lvl_at hl hv) (kk H locs ls hl hn hP hD hS)
theorem q_lload {x : q_X} {cc : ByteArray} {own : String} {fr lo pc : Nat} {lv : List (Option q_V)} {st : List q_V} {Wd : List q_E} {i : Nat} {v : Int64} (ok : q_ok x cc own fr lo) (hv : lv[i]? = some (some (.inr (.inl v)))) (hd : decode cc pc = .ok (.lload i, 2)) (kk : q_W x (pc + 2) lv (.inr (.inl v) :: st) Wd) : q_W x pc lv (st) Wd := by
  obtain ⟨p, l, e, R, s, m, args, below, meth, c, A, H0, cells, slots, Q, D, cA, ad⟩ := x
  obtain ⟨hx, hb, hown, hts, hK, hA, hfr, hlo, hce, hsl⟩ := ok
  intro H locs ls hl hn hP hD hS
  exact lv_lload hx hb hd (q_lvl_at hl hv) (kk H locs ls hl hn hP hD hS)
theorem q_lload_n {x : q_X} {cc : ByteArray} {own : String} {fr lo pc : Nat} {lv : List (Option q_V)} {st : List q_V} {Wd : List q_E} {i : Fin 4} {v : Int64} (ok : q_ok x cc own fr lo) (hv : lv[(i : Nat)]? = some (some (.inr (.inl v)))) (hd : decode cc pc = .ok (.lload_n i, 1)) (kk : q_W x (pc + 1) lv (.inr (.inl v) :: st) Wd) : q_W x pc lv (st) Wd := by
  obtain ⟨p, l, e, R, s, m, args, below, meth, c, A, H0, cells, slots, Q, D, cA, ad⟩ := x
  obtain ⟨hx, hb, hown, hts, hK, hA, hfr, hlo, hce, hsl⟩ := ok
  intro H locs ls hl hn hP hD hS
  exact lv_lload_n hx hb hd rfl (q_lvl_at hl hv) (kk H locs ls hl hn hP hD hS)
theorem q_aload {x : q_X} {cc : ByteArray} {own : String} {fr lo pc : Nat} {lv : List (Option q_V)} {st : List q_V} {Wd : List q_E} {i : Nat} {v : Nat} (ok : q_ok x cc own fr lo) (hv : lv[i]? = some (some (.inr (.inr (some v))))) (hd : decode cc pc = .ok (.aload i, 2)) (kk : q_W x (pc + 2) lv (.inr (.inr (some v)) :: st) Wd) : q_W x pc lv (st) Wd := by
  obtain ⟨p, l, e, R, s, m, args, below, meth, c, A, H0, cells, slots, Q, D, cA, ad⟩ := x
  obtain ⟨hx, hb, hown, hts, hK, hA, hfr, hlo, hce, hsl⟩ := ok
  intro H locs ls hl hn hP hD hS
  exact lv_aload hx hb hd (q_lvl_at hl hv) (kk H locs ls hl hn hP hD hS)
theorem q_aload_n {x : q_X} {cc : ByteArray} {own : String} {fr lo pc : Nat} {lv : List (Option q_V)} {st : List q_V} {Wd : List q_E} {i : Fin 4} {v : Nat} (ok : q_ok x cc own fr lo) (hv : lv[(i : Nat)]? = some (some (.inr (.inr (some v))))) (hd : decode cc pc = .ok (.aload_n i, 1)) (kk : q_W x (pc + 1) lv (.inr (.inr (some v)) :: st) Wd) : q_W x pc lv (st) Wd := by
  obtain ⟨p, l, e, R, s, m, args, below, meth, c, A, H0, cells, slots, Q, D, cA, ad⟩ := x
  obtain ⟨hx, hb, hown, hts, hK, hA, hfr, hlo, hce, hsl⟩ := ok
  intro H locs ls hl hn hP hD hS
  exact lv_aload_n hx hb hd rfl (q_lvl_at hl hv) (kk H locs ls hl hn hP hD hS)
theorem q_iadd {x : q_X} {cc : ByteArray} {own : String} {fr lo pc : Nat} {lv : List (Option q_V)} {st : List q_V} {Wd : List q_E} {a b : Int32} (ok : q_ok x cc own fr lo) (hd : decode cc pc = .ok (.iadd, 1)) (kk : q_W x (pc + 1) lv (.inl (a + b) :: st) Wd) : q_W x pc lv (.inl b :: .inl a :: st) Wd := by
  obtain ⟨p, l, e, R, s, m, args, below, meth, c, A, H0, cells, slots, Q, D, cA, ad⟩ := x
  obtain ⟨hx, hb, hown, hts, hK, hA, hfr, hlo, hce, hsl⟩ := ok
  intro H locs ls hl hn hP hD hS
  exact lv_iadd hx hb hd (kk H locs ls hl hn hP hD hS)
theorem q_isub {x : q_X} {cc : ByteArray} {own : String} {fr lo pc : Nat} {lv : List (Option q_V)} {st : List q_V} {Wd : List q_E} {a b : Int32} (ok : q_ok x cc own fr lo) (hd : decode cc pc = .ok (.isub, 1)) (kk : q_W x (pc + 1) lv (.inl (a - b) :: st) Wd) : q_W x pc lv (.inl b :: .inl a :: st) Wd := by
  obtain ⟨p, l, e, R, s, m, args, below, meth, c, A, H0, cells, slots, Q, D, cA, ad⟩ := x
  obtain ⟨hx, hb, hown, hts, hK, hA, hfr, hlo, hce, hsl⟩ := ok
  intro H locs ls hl hn hP hD hS
  exact lv_isub hx hb hd (kk H locs ls hl hn hP hD hS)
theorem q_imul {x : q_X} {cc : ByteArray} {own : String} {fr lo pc : Nat} {lv : List (Option q_V)} {st : List q_V} {Wd : List q_E} {a b : Int32} (ok : q_ok x cc own fr lo) (hd : decode cc pc = .ok (.imul, 1)) (kk : q_W x (pc + 1) lv (.inl (a * b) :: st) Wd) : q_W x pc lv (.inl b :: .inl a :: st) Wd := by
  obtain ⟨p, l, e, R, s, m, args, below, meth, c, A, H0, cells, slots, Q, D, cA, ad⟩ := x
  obtain ⟨hx, hb, hown, hts, hK, hA, hfr, hlo, hce, hsl⟩ := ok
  intro H locs ls hl hn hP hD hS
  exact lv_imul hx hb hd (kk H locs ls hl hn hP hD hS)
theorem q_iand {x : q_X} {cc : ByteArray} {own : String} {fr lo pc : Nat} {lv : List (Option q_V)} {st : List q_V} {Wd : List q_E} {a b : Int32} (ok : q_ok x cc own fr lo) (hd : decode cc pc = .ok (.iand, 1)) (kk : q_W x (pc + 1) lv (.inl (a &&& b) :: st) Wd) : q_W x pc lv (.inl b :: .inl a :: st) Wd := by
  obtain ⟨p, l, e, R, s, m, args, below, meth, c, A, H0, cells, slots, Q, D, cA, ad⟩ := x
  obtain ⟨hx, hb, hown, hts, hK, hA, hfr, hlo, hce, hsl⟩ := ok
  intro H locs ls hl hn hP hD hS
  exact lv_iand hx hb hd (kk H locs ls hl hn hP hD hS)
theorem q_ladd {x : q_X} {cc : ByteArray} {own : String} {fr lo pc : Nat} {lv : List (Option q_V)} {st : List q_V} {Wd : List q_E} {a b : Int64} (ok : q_ok x cc own fr lo) (hd : decode cc pc = .ok (.ladd, 1)) (kk : q_W x (pc + 1) lv (.inr (.inl (a + b)) :: st) Wd) : q_W x pc lv (.inr (.inl b) :: .inr (.inl a) :: st) Wd := by
  obtain ⟨p, l, e, R, s, m, args, below, meth, c, A, H0, cells, slots, Q, D, cA, ad⟩ := x
  obtain ⟨hx, hb, hown, hts, hK, hA, hfr, hlo, hce, hsl⟩ := ok
  intro H locs ls hl hn hP hD hS
  exact lv_ladd hx hb hd (kk H locs ls hl hn hP hD hS)
theorem q_lsub {x : q_X} {cc : ByteArray} {own : String} {fr lo pc : Nat} {lv : List (Option q_V)} {st : List q_V} {Wd : List q_E} {a b : Int64} (ok : q_ok x cc own fr lo) (hd : decode cc pc = .ok (.lsub, 1)) (kk : q_W x (pc + 1) lv (.inr (.inl (a - b)) :: st) Wd) : q_W x pc lv (.inr (.inl b) :: .inr (.inl a) :: st) Wd := by
  obtain ⟨p, l, e, R, s, m, args, below, meth, c, A, H0, cells, slots, Q, D, cA, ad⟩ := x
  obtain ⟨hx, hb, hown, hts, hK, hA, hfr, hlo, hce, hsl⟩ := ok
  intro H locs ls hl hn hP hD hS
  exact lv_lsub hx hb hd (kk H locs ls hl hn hP hD hS)
theorem q_lmul {x : q_X} {cc : ByteArray} {own : String} {fr lo pc : Nat} {lv : List (Option q_V)} {st : List q_V} {Wd : List q_E} {a b : Int64} (ok : q_ok x cc own fr lo) (hd : decode cc pc = .ok (.lmul, 1)) (kk : q_W x (pc + 1) lv (.inr (.inl (a * b)) :: st) Wd) : q_W x pc lv (.inr (.inl b) :: .inr (.inl a) :: st) Wd := by
  obtain ⟨p, l, e, R, s, m, args, below, meth, c, A, H0, cells, slots, Q, D, cA, ad⟩ := x
  obtain ⟨hx, hb, hown, hts, hK, hA, hfr, hlo, hce, hsl⟩ := ok
  intro H locs ls hl hn hP hD hS
  exact lv_lmul hx hb hd (kk H locs ls hl hn hP hD hS)
theorem q_idiv {x : q_X} {cc : ByteArray} {own : String} {fr lo pc : Nat} {lv : List (Option q_V)} {st : List q_V} {Wd : List q_E} {a b : Int32} (ok : q_ok x cc own fr lo) (hne : ¬ b = 0) (hd : decode cc pc = .ok (.idiv, 1)) (kk : q_W x (pc + 1) lv (.inl (a / b) :: st) Wd) : q_W x pc lv (.inl b :: .inl a :: st) Wd := by
  obtain ⟨p, l, e, R, s, m, args, below, meth, c, A, H0, cells, slots, Q, D, cA, ad⟩ := x
  obtain ⟨hx, hb, hown, hts, hK, hA, hfr, hlo, hce, hsl⟩ := ok
  intro H locs ls hl hn hP hD hS
  exact lv_idiv hx hb hd hne (kk H locs ls hl hn hP hD hS)
theorem q_irem {x : q_X} {cc : ByteArray} {own : String} {fr lo pc : Nat} {lv : List (Option q_V)} {st : List q_V} {Wd : List q_E} {a b : Int32} (ok : q_ok x cc own fr lo) (hne : ¬ b = 0) (hd : decode cc pc = .ok (.irem, 1)) (kk : q_W x (pc + 1) lv (.inl (a - a / b * b) :: st) Wd) : q_W x pc lv (.inl b :: .inl a :: st) Wd := by
  obtain ⟨p, l, e, R, s, m, args, below, meth, c, A, H0, cells, slots, Q, D, cA, ad⟩ := x
  obtain ⟨hx, hb, hown, hts, hK, hA, hfr, hlo, hce, hsl⟩ := ok
  intro H locs ls hl hn hP hD hS
  exact lv_irem hx hb hd hne (kk H locs ls hl hn hP hD hS)
theorem q_i2l {x : q_X} {cc : ByteArray} {own : String} {fr lo pc : Nat} {lv : List (Option q_V)} {st : List q_V} {Wd : List q_E} {a : Int32} (ok : q_ok x cc own fr lo) (hd : decode cc pc = .ok (.i2l, 1)) (kk : q_W x (pc + 1) lv (.inr (.inl a.toInt64) :: st) Wd) : q_W x pc lv (.inl a :: st) Wd := by
  obtain ⟨p, l, e, R, s, m, args, below, meth, c, A, H0, cells, slots, Q, D, cA, ad⟩ := x
  obtain ⟨hx, hb, hown, hts, hK, hA, hfr, hlo, hce, hsl⟩ := ok
  intro H locs ls hl hn hP hD hS
  exact lv_i2l hx hb hd rfl (kk H locs ls hl hn hP hD hS)
theorem q_lcmp {x : q_X} {cc : ByteArray} {own : String} {fr lo pc : Nat} {lv : List (Option q_V)} {st : List q_V} {Wd : List q_E} {a b : Int64} (ok : q_ok x cc own fr lo) (hd : decode cc pc = .ok (.lcmp, 1)) (kk : q_W x (pc + 1) lv (.inl (lg_cmp a b) :: st) Wd) : q_W x pc lv (.inr (.inl b) :: .inr (.inl a) :: st) Wd := by
  obtain ⟨p, l, e, R, s, m, args, below, meth, c, A, H0, cells, slots, Q, D, cA, ad⟩ := x
  obtain ⟨hx, hb, hown, hts, hK, hA, hfr, hlo, hce, hsl⟩ := ok
  intro H locs ls hl hn hP hD hS
  exact W.lcmp hx hb hd (kk H locs ls hl hn hP hD hS)
theorem q_dupi {x : q_X} {cc : ByteArray} {own : String} {fr lo pc : Nat} {lv : List (Option q_V)} {st : List q_V} {Wd : List q_E} {a : Int32} (ok : q_ok x cc own fr lo) (hd : decode cc pc = .ok (.dup, 1)) (kk : q_W x (pc + 1) lv (.inl a :: .inl a :: st) Wd) : q_W x pc lv (.inl a :: st) Wd := by
  obtain ⟨p, l, e, R, s, m, args, below, meth, c, A, H0, cells, slots, Q, D, cA, ad⟩ := x
  obtain ⟨hx, hb, hown, hts, hK, hA, hfr, hlo, hce, hsl⟩ := ok
  intro H locs ls hl hn hP hD hS
  exact lv_dup hx hb hd rfl (kk H locs ls hl hn hP hD hS)
theorem q_dupa {x : q_X} {cc : ByteArray} {own : String} {fr lo pc : Nat} {lv : List (Option q_V)} {st : List q_V} {Wd : List q_E} {a : Nat} (ok : q_ok x cc own fr lo) (hd : decode cc pc = .ok (.dup, 1)) (kk : q_W x (pc + 1) lv (.inr (.inr (some a)) :: .inr (.inr (some a)) :: st) Wd) : q_W x pc lv (.inr (.inr (some a)) :: st) Wd := by
  obtain ⟨p, l, e, R, s, m, args, below, meth, c, A, H0, cells, slots, Q, D, cA, ad⟩ := x
  obtain ⟨hx, hb, hown, hts, hK, hA, hfr, hlo, hce, hsl⟩ := ok
  intro H locs ls hl hn hP hD hS
  exact lv_dup hx hb hd rfl (kk H locs ls hl hn hP hD hS)
theorem q_dup2ia {x : q_X} {cc : ByteArray} {own : String} {fr lo pc : Nat} {lv : List (Option q_V)} {st : List q_V} {Wd : List q_E} {a : Nat} {b : Int32} (ok : q_ok x cc own fr lo) (hd : decode cc pc = .ok (.dup2, 1)) (kk : q_W x (pc + 1) lv (.inl b :: .inr (.inr (some a)) :: .inl b :: .inr (.inr (some a)) :: st) Wd) : q_W x pc lv (.inl b :: .inr (.inr (some a)) :: st) Wd := by
  obtain ⟨p, l, e, R, s, m, args, below, meth, c, A, H0, cells, slots, Q, D, cA, ad⟩ := x
  obtain ⟨hx, hb, hown, hts, hK, hA, hfr, hlo, hce, hsl⟩ := ok
  intro H locs ls hl hn hP hD hS
  exact lv_dup2_11 hx hb hd rfl rfl (kk H locs ls hl hn hP hD hS)
theorem q_icmp_eq {x : q_X} {cc : ByteArray} {own : String} {fr lo pc : Nat} {lv : List (Option q_V)} {st : List q_V} {Wd : List q_E} {a b : Int32} {off : Int} (tgt : Nat) (ok : q_ok x cc own fr lo) (hd : decode cc pc = .ok (.if_icmp .eq off, 3)) (ht : (pc : Int) + off = (tgt : Int)) (kt : a = b → q_W x tgt lv st Wd) (kf : ¬ a = b → q_W x (pc + 3) lv st Wd) : q_W x pc lv (.inl b :: .inl a :: st) Wd := by
  obtain ⟨p, l, e, R, s, m, args, below, meth, c, A, H0, cells, slots, Q, D, cA, ad⟩ := x
  obtain ⟨hx, hb, hown, hts, hK, hA, hfr, hlo, hce, hsl⟩ := ok
  intro H locs ls hl hn hP hD hS
  exact lv_icmp_eq hx hb hd ht (fun h => kt h H locs ls hl hn hP hD hS) (fun h => kf h H locs ls hl hn hP hD hS)
theorem q_if_eq {x : q_X} {cc : ByteArray} {own : String} {fr lo pc : Nat} {lv : List (Option q_V)} {st : List q_V} {Wd : List q_E} {a : Int32} {off : Int} (tgt : Nat) (ok : q_ok x cc own fr lo) (hd : decode cc pc = .ok (.ifCond .eq off, 3)) (ht : (pc : Int) + off = (tgt : Int)) (kt : a = 0 → q_W x tgt lv st Wd) (kf : ¬ a = 0 → q_W x (pc + 3) lv st Wd) : q_W x pc lv (.inl a :: st) Wd := by
  obtain ⟨p, l, e, R, s, m, args, below, meth, c, A, H0, cells, slots, Q, D, cA, ad⟩ := x
  obtain ⟨hx, hb, hown, hts, hK, hA, hfr, hlo, hce, hsl⟩ := ok
  intro H locs ls hl hn hP hD hS
  exact lv_if_eq hx hb hd ht (fun h => kt h H locs ls hl hn hP hD hS) (fun h => kf h H locs ls hl hn hP hD hS)
theorem q_icmp_ne {x : q_X} {cc : ByteArray} {own : String} {fr lo pc : Nat} {lv : List (Option q_V)} {st : List q_V} {Wd : List q_E} {a b : Int32} {off : Int} (tgt : Nat) (ok : q_ok x cc own fr lo) (hd : decode cc pc = .ok (.if_icmp .ne off, 3)) (ht : (pc : Int) + off = (tgt : Int)) (kt : ¬ a = b → q_W x tgt lv st Wd) (kf : a = b → q_W x (pc + 3) lv st Wd) : q_W x pc lv (.inl b :: .inl a :: st) Wd := by
  obtain ⟨p, l, e, R, s, m, args, below, meth, c, A, H0, cells, slots, Q, D, cA, ad⟩ := x
  obtain ⟨hx, hb, hown, hts, hK, hA, hfr, hlo, hce, hsl⟩ := ok
  intro H locs ls hl hn hP hD hS
  exact lv_icmp_ne hx hb hd ht (fun h => kt h H locs ls hl hn hP hD hS) (fun h => kf h H locs ls hl hn hP hD hS)
theorem q_if_ne {x : q_X} {cc : ByteArray} {own : String} {fr lo pc : Nat} {lv : List (Option q_V)} {st : List q_V} {Wd : List q_E} {a : Int32} {off : Int} (tgt : Nat) (ok : q_ok x cc own fr lo) (hd : decode cc pc = .ok (.ifCond .ne off, 3)) (ht : (pc : Int) + off = (tgt : Int)) (kt : ¬ a = 0 → q_W x tgt lv st Wd) (kf : a = 0 → q_W x (pc + 3) lv st Wd) : q_W x pc lv (.inl a :: st) Wd := by
  obtain ⟨p, l, e, R, s, m, args, below, meth, c, A, H0, cells, slots, Q, D, cA, ad⟩ := x
  obtain ⟨hx, hb, hown, hts, hK, hA, hfr, hlo, hce, hsl⟩ := ok
  intro H locs ls hl hn hP hD hS
  exact lv_if_ne hx hb hd ht (fun h => kt h H locs ls hl hn hP hD hS) (fun h => kf h H locs ls hl hn hP hD hS)
theorem q_icmp_lt {x : q_X} {cc : ByteArray} {own : String} {fr lo pc : Nat} {lv : List (Option q_V)} {st : List q_V} {Wd : List q_E} {a b : Int32} {off : Int} (tgt : Nat) (ok : q_ok x cc own fr lo) (hd : decode cc pc = .ok (.if_icmp .lt off, 3)) (ht : (pc : Int) + off = (tgt : Int)) (kt : a < b → q_W x tgt lv st Wd) (kf : ¬ a < b → q_W x (pc + 3) lv st Wd) : q_W x pc lv (.inl b :: .inl a :: st) Wd := by
  obtain ⟨p, l, e, R, s, m, args, below, meth, c, A, H0, cells, slots, Q, D, cA, ad⟩ := x
  obtain ⟨hx, hb, hown, hts, hK, hA, hfr, hlo, hce, hsl⟩ := ok
  intro H locs ls hl hn hP hD hS
  exact lv_icmp_lt hx hb hd ht (fun h => kt h H locs ls hl hn hP hD hS) (fun h => kf h H locs ls hl hn hP hD hS)
theorem q_if_lt {x : q_X} {cc : ByteArray} {own : String} {fr lo pc : Nat} {lv : List (Option q_V)} {st : List q_V} {Wd : List q_E} {a : Int32} {off : Int} (tgt : Nat) (ok : q_ok x cc own fr lo) (hd : decode cc pc = .ok (.ifCond .lt off, 3)) (ht : (pc : Int) + off = (tgt : Int)) (kt : a < 0 → q_W x tgt lv st Wd) (kf : ¬ a < 0 → q_W x (pc + 3) lv st Wd) : q_W x pc lv (.inl a :: st) Wd := by
  obtain ⟨p, l, e, R, s, m, args, below, meth, c, A, H0, cells, slots, Q, D, cA, ad⟩ := x
  obtain ⟨hx, hb, hown, hts, hK, hA, hfr, hlo, hce, hsl⟩ := ok
  intro H locs ls hl hn hP hD hS
  exact lv_if_lt hx hb hd ht (fun h => kt h H locs ls hl hn hP hD hS) (fun h => kf h H locs ls hl hn hP hD hS)
theorem q_icmp_ge {x : q_X} {cc : ByteArray} {own : String} {fr lo pc : Nat} {lv : List (Option q_V)} {st : List q_V} {Wd : List q_E} {a b : Int32} {off : Int} (tgt : Nat) (ok : q_ok x cc own fr lo) (hd : decode cc pc = .ok (.if_icmp .ge off, 3)) (ht : (pc : Int) + off = (tgt : Int)) (kt : b ≤ a → q_W x tgt lv st Wd) (kf : ¬ b ≤ a → q_W x (pc + 3) lv st Wd) : q_W x pc lv (.inl b :: .inl a :: st) Wd := by
  obtain ⟨p, l, e, R, s, m, args, below, meth, c, A, H0, cells, slots, Q, D, cA, ad⟩ := x
  obtain ⟨hx, hb, hown, hts, hK, hA, hfr, hlo, hce, hsl⟩ := ok
  intro H locs ls hl hn hP hD hS
  exact lv_icmp_ge hx hb hd ht (fun h => kt h H locs ls hl hn hP hD hS) (fun h => kf h H locs ls hl hn hP hD hS)
theorem q_if_ge {x : q_X} {cc : ByteArray} {own : String} {fr lo pc : Nat} {lv : List (Option q_V)} {st : List q_V} {Wd : List q_E} {a : Int32} {off : Int} (tgt : Nat) (ok : q_ok x cc own fr lo) (hd : decode cc pc = .ok (.ifCond .ge off, 3)) (ht : (pc : Int) + off = (tgt : Int)) (kt : 0 ≤ a → q_W x tgt lv st Wd) (kf : ¬ 0 ≤ a → q_W x (pc + 3) lv st Wd) : q_W x pc lv (.inl a :: st) Wd := by
  obtain ⟨p, l, e, R, s, m, args, below, meth, c, A, H0, cells, slots, Q, D, cA, ad⟩ := x
  obtain ⟨hx, hb, hown, hts, hK, hA, hfr, hlo, hce, hsl⟩ := ok
  intro H locs ls hl hn hP hD hS
  exact lv_if_ge hx hb hd ht (fun h => kt h H locs ls hl hn hP hD hS) (fun h => kf h H locs ls hl hn hP hD hS)
theorem q_icmp_gt {x : q_X} {cc : ByteArray} {own : String} {fr lo pc : Nat} {lv : List (Option q_V)} {st : List q_V} {Wd : List q_E} {a b : Int32} {off : Int} (tgt : Nat) (ok : q_ok x cc own fr lo) (hd : decode cc pc = .ok (.if_icmp .gt off, 3)) (ht : (pc : Int) + off = (tgt : Int)) (kt : b < a → q_W x tgt lv st Wd) (kf : ¬ b < a → q_W x (pc + 3) lv st Wd) : q_W x pc lv (.inl b :: .inl a :: st) Wd := by
  obtain ⟨p, l, e, R, s, m, args, below, meth, c, A, H0, cells, slots, Q, D, cA, ad⟩ := x
  obtain ⟨hx, hb, hown, hts, hK, hA, hfr, hlo, hce, hsl⟩ := ok
  intro H locs ls hl hn hP hD hS
  exact lv_icmp_gt hx hb hd ht (fun h => kt h H locs ls hl hn hP hD hS) (fun h => kf h H locs ls hl hn hP hD hS)
theorem q_if_gt {x : q_X} {cc : ByteArray} {own : String} {fr lo pc : Nat} {lv : List (Option q_V)} {st : List q_V} {Wd : List q_E} {a : Int32} {off : Int} (tgt : Nat) (ok : q_ok x cc own fr lo) (hd : decode cc pc = .ok (.ifCond .gt off, 3)) (ht : (pc : Int) + off = (tgt : Int)) (kt : 0 < a → q_W x tgt lv st Wd) (kf : ¬ 0 < a → q_W x (pc + 3) lv st Wd) : q_W x pc lv (.inl a :: st) Wd := by
  obtain ⟨p, l, e, R, s, m, args, below, meth, c, A, H0, cells, slots, Q, D, cA, ad⟩ := x
  obtain ⟨hx, hb, hown, hts, hK, hA, hfr, hlo, hce, hsl⟩ := ok
  intro H locs ls hl hn hP hD hS
  exact lv_if_gt hx hb hd ht (fun h => kt h H locs ls hl hn hP hD hS) (fun h => kf h H locs ls hl hn hP hD hS)
theorem q_icmp_le {x : q_X} {cc : ByteArray} {own : String} {fr lo pc : Nat} {lv : List (Option q_V)} {st : List q_V} {Wd : List q_E} {a b : Int32} {off : Int} (tgt : Nat) (ok : q_ok x cc own fr lo) (hd : decode cc pc = .ok (.if_icmp .le off, 3)) (ht : (pc : Int) + off = (tgt : Int)) (kt : a ≤ b → q_W x tgt lv st Wd) (kf : ¬ a ≤ b → q_W x (pc + 3) lv st Wd) : q_W x pc lv (.inl b :: .inl a :: st) Wd := by
  obtain ⟨p, l, e, R, s, m, args, below, meth, c, A, H0, cells, slots, Q, D, cA, ad⟩ := x
  obtain ⟨hx, hb, hown, hts, hK, hA, hfr, hlo, hce, hsl⟩ := ok
  intro H locs ls hl hn hP hD hS
  exact lv_icmp_le hx hb hd ht (fun h => kt h H locs ls hl hn hP hD hS) (fun h => kf h H locs ls hl hn hP hD hS)
theorem q_if_le {x : q_X} {cc : ByteArray} {own : String} {fr lo pc : Nat} {lv : List (Option q_V)} {st : List q_V} {Wd : List q_E} {a : Int32} {off : Int} (tgt : Nat) (ok : q_ok x cc own fr lo) (hd : decode cc pc = .ok (.ifCond .le off, 3)) (ht : (pc : Int) + off = (tgt : Int)) (kt : a ≤ 0 → q_W x tgt lv st Wd) (kf : ¬ a ≤ 0 → q_W x (pc + 3) lv st Wd) : q_W x pc lv (.inl a :: st) Wd := by
  obtain ⟨p, l, e, R, s, m, args, below, meth, c, A, H0, cells, slots, Q, D, cA, ad⟩ := x
  obtain ⟨hx, hb, hown, hts, hK, hA, hfr, hlo, hce, hsl⟩ := ok
  intro H locs ls hl hn hP hD hS
  exact lv_if_le hx hb hd ht (fun h => kt h H locs ls hl hn hP hD hS) (fun h => kf h H locs ls hl hn hP hD hS)
theorem q_goto {x : q_X} {cc : ByteArray} {own : String} {fr lo pc : Nat} {lv : List (Option q_V)} {st : List q_V} {Wd : List q_E} {off : Int} (tgt : Nat) (ok : q_ok x cc own fr lo) (hd : decode cc pc = .ok (.goto off, 3)) (ht : (pc : Int) + off = (tgt : Int)) (kk : q_W x tgt lv st Wd) : q_W x pc lv st Wd := by
  obtain ⟨p, l, e, R, s, m, args, below, meth, c, A, H0, cells, slots, Q, D, cA, ad⟩ := x
  obtain ⟨hx, hb, hown, hts, hK, hA, hfr, hlo, hce, hsl⟩ := ok
  intro H locs ls hl hn hP hD hS
  exact lv_goto hx hb hd ht (kk H locs ls hl hn hP hD hS)
theorem q_istoreG {x : q_X} {cc : ByteArray} {own : String} {fr lo pc : Nat} {lv : List (Option q_V)} {st : List q_V} {Wd : List q_E} {i : Nat} {v : Int32} (ok : q_ok x cc own fr lo) (hi : i < lv.length) (hp : q_fre i lv = true) (hd : decode cc pc = .ok (.istore i, 2)) (kk : q_W x (pc + 2) (lv.set i (some (.inl v))) st Wd) : q_W x pc lv (.inl v :: st) Wd := by
  obtain ⟨p, l, e, R, s, m, args, below, meth, c, A, H0, cells, slots, Q, D, cA, ad⟩ := x
  obtain ⟨hx, hb, hown, hts, hK, hA, hfr, hlo, hce, hsl⟩ := ok
  intro H locs ls hl hn hP hD hS
  exact lv_istore hx hb hd hl hi rfl (fun ls2 h2 => kk H locs ls2 (by rw [List.length_set]; exact q_has_sub h2 (fun q hq => q_st1 hp hq)) (by rw [List.length_set]; exact hn) hP hD hS)
theorem q_istore_nG {x : q_X} {cc : ByteArray} {own : String} {fr lo pc : Nat} {lv : List (Option q_V)} {st : List q_V} {Wd : List q_E} {i : Fin 4} {v : Int32} (ok : q_ok x cc own fr lo) (hi : (i : Nat) < lv.length) (hp : q_fre i lv = true) (hd : decode cc pc = .ok (.istore_n i, 1)) (kk : q_W x (pc + 1) (lv.set i (some (.inl v))) st Wd) : q_W x pc lv (.inl v :: st) Wd := by
  obtain ⟨p, l, e, R, s, m, args, below, meth, c, A, H0, cells, slots, Q, D, cA, ad⟩ := x
  obtain ⟨hx, hb, hown, hts, hK, hA, hfr, hlo, hce, hsl⟩ := ok
  intro H locs ls hl hn hP hD hS
  exact lv_istore_n hx hb hd rfl hl hi rfl (fun ls2 h2 => kk H locs ls2 (by rw [List.length_set]; exact q_has_sub h2 (fun q hq => q_st1 hp hq)) (by rw [List.length_set]; exact hn) hP hD hS)
theorem q_astoreG {x : q_X} {cc : ByteArray} {own : String} {fr lo pc : Nat} {lv : List (Option q_V)} {st : List q_V} {Wd : List q_E} {i : Nat} {v : Nat} (ok : q_ok x cc own fr lo) (hi : i < lv.length) (hp : q_fre i lv = true) (hd : decode cc pc = .ok (.astore i, 2)) (kk : q_W x (pc + 2) (lv.set i (some (.inr (.inr (some v))))) st Wd) : q_W x pc lv (.inr (.inr (some v)) :: st) Wd := by
  obtain ⟨p, l, e, R, s, m, args, below, meth, c, A, H0, cells, slots, Q, D, cA, ad⟩ := x
  obtain ⟨hx, hb, hown, hts, hK, hA, hfr, hlo, hce, hsl⟩ := ok
  intro H locs ls hl hn hP hD hS
  exact lv_astore hx hb hd hl hi rfl (fun ls2 h2 => kk H locs ls2 (by rw [List.length_set]; exact q_has_sub h2 (fun q hq => q_st1 hp hq)) (by rw [List.length_set]; exact hn) hP hD hS)
theorem q_astore_nG {x : q_X} {cc : ByteArray} {own : String} {fr lo pc : Nat} {lv : List (Option q_V)} {st : List q_V} {Wd : List q_E} {i : Fin 4} {v : Nat} (ok : q_ok x cc own fr lo) (hi : (i : Nat) < lv.length) (hp : q_fre i lv = true) (hd : decode cc pc = .ok (.astore_n i, 1)) (kk : q_W x (pc + 1) (lv.set i (some (.inr (.inr (some v))))) st Wd) : q_W x pc lv (.inr (.inr (some v)) :: st) Wd := by
  obtain ⟨p, l, e, R, s, m, args, below, meth, c, A, H0, cells, slots, Q, D, cA, ad⟩ := x
  obtain ⟨hx, hb, hown, hts, hK, hA, hfr, hlo, hce, hsl⟩ := ok
  intro H locs ls hl hn hP hD hS
  exact lv_astore_n hx hb hd rfl hl hi rfl (fun ls2 h2 => kk H locs ls2 (by rw [List.length_set]; exact q_has_sub h2 (fun q hq => q_st1 hp hq)) (by rw [List.length_set]; exact hn) hP hD hS)
theorem q_lstoreG {x : q_X} {cc : ByteArray} {own : String} {fr lo pc : Nat} {lv : List (Option q_V)} {st : List q_V} {Wd : List q_E} {i : Nat} {v : Int64} (ok : q_ok x cc own fr lo) (hi : i + 1 < lv.length) (hp : q_fre i lv = true) (hd : decode cc pc = .ok (.lstore i, 2)) (kk : q_W x (pc + 2) ((lv.set i (some (.inr (.inl v)))).set (i + 1) none) st Wd) : q_W x pc lv (.inr (.inl v) :: st) Wd := by
  obtain ⟨p, l, e, R, s, m, args, below, meth, c, A, H0, cells, slots, Q, D, cA, ad⟩ := x
  obtain ⟨hx, hb, hown, hts, hK, hA, hfr, hlo, hce, hsl⟩ := ok
  intro H locs ls hl hn hP hD hS
  exact lv_lstore hx hb hd hl hi rfl (fun ls2 h2 => kk H locs ls2 (by rw [List.length_set, List.length_set]; exact q_has_sub h2 (fun q hq => q_st2 hp hq)) (by rw [List.length_set, List.length_set]; exact hn) hP hD hS)
theorem q_lstore_nG {x : q_X} {cc : ByteArray} {own : String} {fr lo pc : Nat} {lv : List (Option q_V)} {st : List q_V} {Wd : List q_E} {i : Fin 4} {v : Int64} (ok : q_ok x cc own fr lo) (hi : (i : Nat) + 1 < lv.length) (hp : q_fre i lv = true) (hd : decode cc pc = .ok (.lstore_n i, 1)) (kk : q_W x (pc + 1) ((lv.set i (some (.inr (.inl v)))).set (i + 1) none) st Wd) : q_W x pc lv (.inr (.inl v) :: st) Wd := by
  obtain ⟨p, l, e, R, s, m, args, below, meth, c, A, H0, cells, slots, Q, D, cA, ad⟩ := x
  obtain ⟨hx, hb, hown, hts, hK, hA, hfr, hlo, hce, hsl⟩ := ok
  intro H locs ls hl hn hP hD hS
  exact lv_lstore_n hx hb hd rfl hl hi rfl (fun ls2 h2 => kk H locs ls2 (by rw [List.length_set, List.length_set]; exact q_has_sub h2 (fun q hq => q_st2 hp hq)) (by rw [List.length_set, List.length_set]; exact hn) hP hD hS)
theorem q_iincG {x : q_X} {cc : ByteArray} {own : String} {fr lo pc : Nat} {lv : List (Option q_V)} {st : List q_V} {Wd : List q_E} {i : Nat} {n : Int} {v : Int32} (ok : q_ok x cc own fr lo) (hv : lv[i]? = some (some (.inl v))) (hp : q_fre i lv = true) (hd : decode cc pc = .ok (.iinc i n, 3)) (kk : q_W x (pc + 3) (lv.set i (some (.inl (v + Int32.ofInt n)))) st Wd) : q_W x pc lv st Wd := by
  obtain ⟨p, l, e, R, s, m, args, below, meth, c, A, H0, cells, slots, Q, D, cA, ad⟩ := x
  obtain ⟨hx, hb, hown, hts, hK, hA, hfr, hlo, hce, hsl⟩ := ok
  intro H locs ls hl hn hP hD hS
  have hi : i < lv.length := (List.getElem?_eq_some_iff.mp hv).1
  obtain ⟨k, hk⟩ := List.getElem?_of_mem ((q_lvl_mem ad lv 0 (i, .int v)).mpr ⟨i, .inl v, hv, by simp [q_cv]⟩)
  exact lv_iinc hx hb hd hl hk rfl hi rfl (fun ls2 h2 => kk H locs ls2 (by rw [List.length_set]; exact q_has_sub h2 (fun q hq => q_st1 hp hq)) (by rw [List.length_set]; exact hn) hP hD hS)
theorem q_istore_0 {x : q_X} {cc : ByteArray} {own : String} {fr lo pc : Nat} {st : List q_V} {Wd : List q_E} {a0 : Option q_V} {tl : List (Option q_V)} {v : Int32} (ok : q_ok x cc own fr lo) (hd : decode cc pc = .ok (.istore_n 0, 1)) (kk : q_W x (pc + 1) (some (.inl v) :: tl) st Wd) : q_W x pc (a0 :: tl) (.inl v :: st) Wd := q_istore_nG (i := 0) ok (by show 0 < _; simp) rfl hd kk
theorem q_astore_0 {x : q_X} {cc : ByteArray} {own : String} {fr lo pc : Nat} {st : List q_V} {Wd : List q_E} {a0 : Option q_V} {tl : List (Option q_V)} {v : Nat} (ok : q_ok x cc own fr lo) (hd : decode cc pc = .ok (.astore_n 0, 1)) (kk : q_W x (pc + 1) (some (.inr (.inr (some v))) :: tl) st Wd) : q_W x pc (a0 :: tl) (.inr (.inr (some v)) :: st) Wd := q_astore_nG (i := 0) ok (by show 0 < _; simp) rfl hd kk
theorem q_lstore_0 {x : q_X} {cc : ByteArray} {own : String} {fr lo pc : Nat} {st : List q_V} {Wd : List q_E} {a0 a1 : Option q_V} {tl : List (Option q_V)} {v : Int64} (ok : q_ok x cc own fr lo) (hd : decode cc pc = .ok (.lstore_n 0, 1)) (kk : q_W x (pc + 1) (some (.inr (.inl v)) :: none :: tl) st Wd) : q_W x pc (a0 :: a1 :: tl) (.inr (.inl v) :: st) Wd := q_lstore_nG (i := 0) ok (by show 0 + 1 < _; simp) rfl hd kk
theorem q_iinc_0 {x : q_X} {cc : ByteArray} {own : String} {fr lo pc : Nat} {st : List q_V} {Wd : List q_E} {tl : List (Option q_V)} {n : Int} {v : Int32} (u : Int32) (ok : q_ok x cc own fr lo) (hu : Int32.ofInt n = u) (hd : decode cc pc = .ok (.iinc 0 n, 3)) (kk : q_W x (pc + 3) (some (.inl (v + u)) :: tl) st Wd) : q_W x pc (some (.inl v) :: tl) st Wd := q_iincG (i := 0) ok rfl rfl hd (by rw [hu]; exact kk)
theorem q_istore_1 {x : q_X} {cc : ByteArray} {own : String} {fr lo pc : Nat} {st : List q_V} {Wd : List q_E} {a0 a1 : Option q_V} {tl : List (Option q_V)} {v : Int32} (ok : q_ok x cc own fr lo) (hp : q_nol a0 = true) (hd : decode cc pc = .ok (.istore_n 1, 1)) (kk : q_W x (pc + 1) (a0 :: some (.inl v) :: tl) st Wd) : q_W x pc (a0 :: a1 :: tl) (.inl v :: st) Wd := q_istore_nG (i := 1) ok (by show 1 < _; simp) hp hd kk
theorem q_astore_1 {x : q_X} {cc : ByteArray} {own : String} {fr lo pc : Nat} {st : List q_V} {Wd : List q_E} {a0 a1 : Option q_V} {tl : List (Option q_V)} {v : Nat} (ok : q_ok x cc own fr lo) (hp : q_nol a0 = true) (hd : decode cc pc = .ok (.astore_n 1, 1)) (kk : q_W x (pc + 1) (a0 :: some (.inr (.inr (some v))) :: tl) st Wd) : q_W x pc (a0 :: a1 :: tl) (.inr (.inr (some v)) :: st) Wd := q_astore_nG (i := 1) ok (by show 1 < _; simp) hp hd kk
theorem q_lstore_1 {x : q_X} {cc : ByteArray} {own : String} {fr lo pc : Nat} {st : List q_V} {Wd : List q_E} {a0 a1 a2 : Option q_V} {tl : List (Option q_V)} {v : Int64} (ok : q_ok x cc own fr lo) (hp : q_nol a0 = true) (hd : decode cc pc = .ok (.lstore_n 1, 1)) (kk : q_W x (pc + 1) (a0 :: some (.inr (.inl v)) :: none :: tl) st Wd) : q_W x pc (a0 :: a1 :: a2 :: tl) (.inr (.inl v) :: st) Wd := q_lstore_nG (i := 1) ok (by show 1 + 1 < _; simp) hp hd kk
theorem q_iinc_1 {x : q_X} {cc : ByteArray} {own : String} {fr lo pc : Nat} {st : List q_V} {Wd : List q_E} {a0 : Option q_V} {tl : List (Option q_V)} {n : Int} {v : Int32} (u : Int32) (ok : q_ok x cc own fr lo) (hp : q_nol a0 = true) (hu : Int32.ofInt n = u) (hd : decode cc pc = .ok (.iinc 1 n, 3)) (kk : q_W x (pc + 3) (a0 :: some (.inl (v + u)) :: tl) st Wd) : q_W x pc (a0 :: some (.inl v) :: tl) st Wd := q_iincG (i := 1) ok rfl hp hd (by rw [hu]; exact kk)
theorem q_istore_2 {x : q_X} {cc : ByteArray} {own : String} {fr lo pc : Nat} {st : List q_V} {Wd : List q_E} {a0 a1 a2 : Option q_V} {tl : List (Option q_V)} {v : Int32} (ok : q_ok x cc own fr lo) (hp : q_nol a1 = true) (hd : decode cc pc = .ok (.istore_n 2, 1)) (kk : q_W x (pc + 1) (a0 :: a1 :: some (.inl v) :: tl) st Wd) : q_W x pc (a0 :: a1 :: a2 :: tl) (.inl v :: st) Wd := q_istore_nG (i := 2) ok (by show 2 < _; simp) hp hd kk
theorem q_astore_2 {x : q_X} {cc : ByteArray} {own : String} {fr lo pc : Nat} {st : List q_V} {Wd : List q_E} {a0 a1 a2 : Option q_V} {tl : List (Option q_V)} {v : Nat} (ok : q_ok x cc own fr lo) (hp : q_nol a1 = true) (hd : decode cc pc = .ok (.astore_n 2, 1)) (kk : q_W x (pc + 1) (a0 :: a1 :: some (.inr (.inr (some v))) :: tl) st Wd) : q_W x pc (a0 :: a1 :: a2 :: tl) (.inr (.inr (some v)) :: st) Wd := q_astore_nG (i := 2) ok (by show 2 < _; simp) hp hd kk
theorem q_lstore_2 {x : q_X} {cc : ByteArray} {own : String} {fr lo pc : Nat} {st : List q_V} {Wd : List q_E} {a0 a1 a2 a3 : Option q_V} {tl : List (Option q_V)} {v : Int64} (ok : q_ok x cc own fr lo) (hp : q_nol a1 = true) (hd : decode cc pc = .ok (.lstore_n 2, 1)) (kk : q_W x (pc + 1) (a0 :: a1 :: some (.inr (.inl v)) :: none :: tl) st Wd) : q_W x pc (a0 :: a1 :: a2 :: a3 :: tl) (.inr (.inl v) :: st) Wd := q_lstore_nG (i := 2) ok (by show 2 + 1 < _; simp) hp hd kk
theorem q_iinc_2 {x : q_X} {cc : ByteArray} {own : String} {fr lo pc : Nat} {st : List q_V} {Wd : List q_E} {a0 a1 : Option q_V} {tl : List (Option q_V)} {n : Int} {v : Int32} (u : Int32) (ok : q_ok x cc own fr lo) (hp : q_nol a1 = true) (hu : Int32.ofInt n = u) (hd : decode cc pc = .ok (.iinc 2 n, 3)) (kk : q_W x (pc + 3) (a0 :: a1 :: some (.inl (v + u)) :: tl) st Wd) : q_W x pc (a0 :: a1 :: some (.inl v) :: tl) st Wd := q_iincG (i := 2) ok rfl hp hd (by rw [hu]; exact kk)
theorem q_istore_3 {x : q_X} {cc : ByteArray} {own : String} {fr lo pc : Nat} {st : List q_V} {Wd : List q_E} {a0 a1 a2 a3 : Option q_V} {tl : List (Option q_V)} {v : Int32} (ok : q_ok x cc own fr lo) (hp : q_nol a2 = true) (hd : decode cc pc = .ok (.istore_n 3, 1)) (kk : q_W x (pc + 1) (a0 :: a1 :: a2 :: some (.inl v) :: tl) st Wd) : q_W x pc (a0 :: a1 :: a2 :: a3 :: tl) (.inl v :: st) Wd := q_istore_nG (i := 3) ok (by show 3 < _; simp) hp hd kk
theorem q_astore_3 {x : q_X} {cc : ByteArray} {own : String} {fr lo pc : Nat} {st : List q_V} {Wd : List q_E} {a0 a1 a2 a3 : Option q_V} {tl : List (Option q_V)} {v : Nat} (ok : q_ok x cc own fr lo) (hp : q_nol a2 = true) (hd : decode cc pc = .ok (.astore_n 3, 1)) (kk : q_W x (pc + 1) (a0 :: a1 :: a2 :: some (.inr (.inr (some v))) :: tl) st Wd) : q_W x pc (a0 :: a1 :: a2 :: a3 :: tl) (.inr (.inr (some v)) :: st) Wd := q_astore_nG (i := 3) ok (by show 3 < _; simp) hp hd kk
theorem q_lstore_3 {x : q_X} {cc : ByteArray} {own : String} {fr lo pc : Nat} {st : List q_V} {Wd : List q_E} {a0 a1 a2 a3 a4 : Option q_V} {tl : List (Option q_V)} {v : Int64} (ok : q_ok x cc own fr lo) (hp : q_nol a2 = true) (hd : decode cc pc = .ok (.lstore_n 3, 1)) (kk : q_W x (pc + 1) (a0 :: a1 :: a2 :: some (.inr (.inl v)) :: none :: tl) st Wd) : q_W x pc (a0 :: a1 :: a2 :: a3 :: a4 :: tl) (.inr (.inl v) :: st) Wd := q_lstore_nG (i := 3) ok (by show 3 + 1 < _; simp) hp hd kk
theorem q_iinc_3 {x : q_X} {cc : ByteArray} {own : String} {fr lo pc : Nat} {st : List q_V} {Wd : List q_E} {a0 a1 a2 : Option q_V} {tl : List (Option q_V)} {n : Int} {v : Int32} (u : Int32) (ok : q_ok x cc own fr lo) (hp : q_nol a2 = true) (hu : Int32.ofInt n = u) (hd : decode cc pc = .ok (.iinc 3 n, 3)) (kk : q_W x (pc + 3) (a0 :: a1 :: a2 :: some (.inl (v + u)) :: tl) st Wd) : q_W x pc (a0 :: a1 :: a2 :: some (.inl v) :: tl) st Wd := q_iincG (i := 3) ok rfl hp hd (by rw [hu]; exact kk)
theorem q_istore_4 {x : q_X} {cc : ByteArray} {own : String} {fr lo pc : Nat} {st : List q_V} {Wd : List q_E} {a0 a1 a2 a3 a4 : Option q_V} {tl : List (Option q_V)} {v : Int32} (ok : q_ok x cc own fr lo) (hp : q_nol a3 = true) (hd : decode cc pc = .ok (.istore 4, 2)) (kk : q_W x (pc + 2) (a0 :: a1 :: a2 :: a3 :: some (.inl v) :: tl) st Wd) : q_W x pc (a0 :: a1 :: a2 :: a3 :: a4 :: tl) (.inl v :: st) Wd := q_istoreG (i := 4) ok (by show 4 < _; simp) hp hd kk
theorem q_astore_4 {x : q_X} {cc : ByteArray} {own : String} {fr lo pc : Nat} {st : List q_V} {Wd : List q_E} {a0 a1 a2 a3 a4 : Option q_V} {tl : List (Option q_V)} {v : Nat} (ok : q_ok x cc own fr lo) (hp : q_nol a3 = true) (hd : decode cc pc = .ok (.astore 4, 2)) (kk : q_W x (pc + 2) (a0 :: a1 :: a2 :: a3 :: some (.inr (.inr (some v))) :: tl) st Wd) : q_W x pc (a0 :: a1 :: a2 :: a3 :: a4 :: tl) (.inr (.inr (some v)) :: st) Wd := q_astoreG (i := 4) ok (by show 4 < _; simp) hp hd kk
theorem q_lstore_4 {x : q_X} {cc : ByteArray} {own : String} {fr lo pc : Nat} {st : List q_V} {Wd : List q_E} {a0 a1 a2 a3 a4 a5 : Option q_V} {tl : List (Option q_V)} {v : Int64} (ok : q_ok x cc own fr lo) (hp : q_nol a3 = true) (hd : decode cc pc = .ok (.lstore 4, 2)) (kk : q_W x (pc + 2) (a0 :: a1 :: a2 :: a3 :: some (.inr (.inl v)) :: none :: tl) st Wd) : q_W x pc (a0 :: a1 :: a2 :: a3 :: a4 :: a5 :: tl) (.inr (.inl v) :: st) Wd := q_lstoreG (i := 4) ok (by show 4 + 1 < _; simp) hp hd kk
theorem q_iinc_4 {x : q_X} {cc : ByteArray} {own : String} {fr lo pc : Nat} {st : List q_V} {Wd : List q_E} {a0 a1 a2 a3 : Option q_V} {tl : List (Option q_V)} {n : Int} {v : Int32} (u : Int32) (ok : q_ok x cc own fr lo) (hp : q_nol a3 = true) (hu : Int32.ofInt n = u) (hd : decode cc pc = .ok (.iinc 4 n, 3)) (kk : q_W x (pc + 3) (a0 :: a1 :: a2 :: a3 :: some (.inl (v + u)) :: tl) st Wd) : q_W x pc (a0 :: a1 :: a2 :: a3 :: some (.inl v) :: tl) st Wd := q_iincG (i := 4) ok rfl hp hd (by rw [hu]; exact kk)
theorem q_istore_5 {x : q_X} {cc : ByteArray} {own : String} {fr lo pc : Nat} {st : List q_V} {Wd : List q_E} {a0 a1 a2 a3 a4 a5 : Option q_V} {tl : List (Option q_V)} {v : Int32} (ok : q_ok x cc own fr lo) (hp : q_nol a4 = true) (hd : decode cc pc = .ok (.istore 5, 2)) (kk : q_W x (pc + 2) (a0 :: a1 :: a2 :: a3 :: a4 :: some (.inl v) :: tl) st Wd) : q_W x pc (a0 :: a1 :: a2 :: a3 :: a4 :: a5 :: tl) (.inl v :: st) Wd := q_istoreG (i := 5) ok (by show 5 < _; simp) hp hd kk
theorem q_astore_5 {x : q_X} {cc : ByteArray} {own : String} {fr lo pc : Nat} {st : List q_V} {Wd : List q_E} {a0 a1 a2 a3 a4 a5 : Option q_V} {tl : List (Option q_V)} {v : Nat} (ok : q_ok x cc own fr lo) (hp : q_nol a4 = true) (hd : decode cc pc = .ok (.astore 5, 2)) (kk : q_W x (pc + 2) (a0 :: a1 :: a2 :: a3 :: a4 :: some (.inr (.inr (some v))) :: tl) st Wd) : q_W x pc (a0 :: a1 :: a2 :: a3 :: a4 :: a5 :: tl) (.inr (.inr (some v)) :: st) Wd := q_astoreG (i := 5) ok (by show 5 < _; simp) hp hd kk
theorem q_lstore_5 {x : q_X} {cc : ByteArray} {own : String} {fr lo pc : Nat} {st : List q_V} {Wd : List q_E} {a0 a1 a2 a3 a4 a5 a6 : Option q_V} {tl : List (Option q_V)} {v : Int64} (ok : q_ok x cc own fr lo) (hp : q_nol a4 = true) (hd : decode cc pc = .ok (.lstore 5, 2)) (kk : q_W x (pc + 2) (a0 :: a1 :: a2 :: a3 :: a4 :: some (.inr (.inl v)) :: none :: tl) st Wd) : q_W x pc (a0 :: a1 :: a2 :: a3 :: a4 :: a5 :: a6 :: tl) (.inr (.inl v) :: st) Wd := q_lstoreG (i := 5) ok (by show 5 + 1 < _; simp) hp hd kk
theorem q_iinc_5 {x : q_X} {cc : ByteArray} {own : String} {fr lo pc : Nat} {st : List q_V} {Wd : List q_E} {a0 a1 a2 a3 a4 : Option q_V} {tl : List (Option q_V)} {n : Int} {v : Int32} (u : Int32) (ok : q_ok x cc own fr lo) (hp : q_nol a4 = true) (hu : Int32.ofInt n = u) (hd : decode cc pc = .ok (.iinc 5 n, 3)) (kk : q_W x (pc + 3) (a0 :: a1 :: a2 :: a3 :: a4 :: some (.inl (v + u)) :: tl) st Wd) : q_W x pc (a0 :: a1 :: a2 :: a3 :: a4 :: some (.inl v) :: tl) st Wd := q_iincG (i := 5) ok rfl hp hd (by rw [hu]; exact kk)
theorem q_istore_6 {x : q_X} {cc : ByteArray} {own : String} {fr lo pc : Nat} {st : List q_V} {Wd : List q_E} {a0 a1 a2 a3 a4 a5 a6 : Option q_V} {tl : List (Option q_V)} {v : Int32} (ok : q_ok x cc own fr lo) (hp : q_nol a5 = true) (hd : decode cc pc = .ok (.istore 6, 2)) (kk : q_W x (pc + 2) (a0 :: a1 :: a2 :: a3 :: a4 :: a5 :: some (.inl v) :: tl) st Wd) : q_W x pc (a0 :: a1 :: a2 :: a3 :: a4 :: a5 :: a6 :: tl) (.inl v :: st) Wd := q_istoreG (i := 6) ok (by show 6 < _; simp) hp hd kk
theorem q_astore_6 {x : q_X} {cc : ByteArray} {own : String} {fr lo pc : Nat} {st : List q_V} {Wd : List q_E} {a0 a1 a2 a3 a4 a5 a6 : Option q_V} {tl : List (Option q_V)} {v : Nat} (ok : q_ok x cc own fr lo) (hp : q_nol a5 = true) (hd : decode cc pc = .ok (.astore 6, 2)) (kk : q_W x (pc + 2) (a0 :: a1 :: a2 :: a3 :: a4 :: a5 :: some (.inr (.inr (some v))) :: tl) st Wd) : q_W x pc (a0 :: a1 :: a2 :: a3 :: a4 :: a5 :: a6 :: tl) (.inr (.inr (some v)) :: st) Wd := q_astoreG (i := 6) ok (by show 6 < _; simp) hp hd kk
theorem q_lstore_6 {x : q_X} {cc : ByteArray} {own : String} {fr lo pc : Nat} {st : List q_V} {Wd : List q_E} {a0 a1 a2 a3 a4 a5 a6 a7 : Option q_V} {tl : List (Option q_V)} {v : Int64} (ok : q_ok x cc own fr lo) (hp : q_nol a5 = true) (hd : decode cc pc = .ok (.lstore 6, 2)) (kk : q_W x (pc + 2) (a0 :: a1 :: a2 :: a3 :: a4 :: a5 :: some (.inr (.inl v)) :: none :: tl) st Wd) : q_W x pc (a0 :: a1 :: a2 :: a3 :: a4 :: a5 :: a6 :: a7 :: tl) (.inr (.inl v) :: st) Wd := q_lstoreG (i := 6) ok (by show 6 + 1 < _; simp) hp hd kk
theorem q_iinc_6 {x : q_X} {cc : ByteArray} {own : String} {fr lo pc : Nat} {st : List q_V} {Wd : List q_E} {a0 a1 a2 a3 a4 a5 : Option q_V} {tl : List (Option q_V)} {n : Int} {v : Int32} (u : Int32) (ok : q_ok x cc own fr lo) (hp : q_nol a5 = true) (hu : Int32.ofInt n = u) (hd : decode cc pc = .ok (.iinc 6 n, 3)) (kk : q_W x (pc + 3) (a0 :: a1 :: a2 :: a3 :: a4 :: a5 :: some (.inl (v + u)) :: tl) st Wd) : q_W x pc (a0 :: a1 :: a2 :: a3 :: a4 :: a5 :: some (.inl v) :: tl) st Wd := q_iincG (i := 6) ok rfl hp hd (by rw [hu]; exact kk)
theorem q_istore_7 {x : q_X} {cc : ByteArray} {own : String} {fr lo pc : Nat} {st : List q_V} {Wd : List q_E} {a0 a1 a2 a3 a4 a5 a6 a7 : Option q_V} {tl : List (Option q_V)} {v : Int32} (ok : q_ok x cc own fr lo) (hp : q_nol a6 = true) (hd : decode cc pc = .ok (.istore 7, 2)) (kk : q_W x (pc + 2) (a0 :: a1 :: a2 :: a3 :: a4 :: a5 :: a6 :: some (.inl v) :: tl) st Wd) : q_W x pc (a0 :: a1 :: a2 :: a3 :: a4 :: a5 :: a6 :: a7 :: tl) (.inl v :: st) Wd := q_istoreG (i := 7) ok (by show 7 < _; simp) hp hd kk
theorem q_astore_7 {x : q_X} {cc : ByteArray} {own : String} {fr lo pc : Nat} {st : List q_V} {Wd : List q_E} {a0 a1 a2 a3 a4 a5 a6 a7 : Option q_V} {tl : List (Option q_V)} {v : Nat} (ok : q_ok x cc own fr lo) (hp : q_nol a6 = true) (hd : decode cc pc = .ok (.astore 7, 2)) (kk : q_W x (pc + 2) (a0 :: a1 :: a2 :: a3 :: a4 :: a5 :: a6 :: some (.inr (.inr (some v))) :: tl) st Wd) : q_W x pc (a0 :: a1 :: a2 :: a3 :: a4 :: a5 :: a6 :: a7 :: tl) (.inr (.inr (some v)) :: st) Wd := q_astoreG (i := 7) ok (by show 7 < _; simp) hp hd kk
theorem q_lstore_7 {x : q_X} {cc : ByteArray} {own : String} {fr lo pc : Nat} {st : List q_V} {Wd : List q_E} {a0 a1 a2 a3 a4 a5 a6 a7 a8 : Option q_V} {tl : List (Option q_V)} {v : Int64} (ok : q_ok x cc own fr lo) (hp : q_nol a6 = true) (hd : decode cc pc = .ok (.lstore 7, 2)) (kk : q_W x (pc + 2) (a0 :: a1 :: a2 :: a3 :: a4 :: a5 :: a6 :: some (.inr (.inl v)) :: none :: tl) st Wd) : q_W x pc (a0 :: a1 :: a2 :: a3 :: a4 :: a5 :: a6 :: a7 :: a8 :: tl) (.inr (.inl v) :: st) Wd := q_lstoreG (i := 7) ok (by show 7 + 1 < _; simp) hp hd kk
theorem q_iinc_7 {x : q_X} {cc : ByteArray} {own : String} {fr lo pc : Nat} {st : List q_V} {Wd : List q_E} {a0 a1 a2 a3 a4 a5 a6 : Option q_V} {tl : List (Option q_V)} {n : Int} {v : Int32} (u : Int32) (ok : q_ok x cc own fr lo) (hp : q_nol a6 = true) (hu : Int32.ofInt n = u) (hd : decode cc pc = .ok (.iinc 7 n, 3)) (kk : q_W x (pc + 3) (a0 :: a1 :: a2 :: a3 :: a4 :: a5 :: a6 :: some (.inl (v + u)) :: tl) st Wd) : q_W x pc (a0 :: a1 :: a2 :: a3 :: a4 :: a5 :: a6 :: some (.inl v) :: tl) st Wd := q_iincG (i := 7) ok rfl hp hd (by rw [hu]; exact kk)
theorem q_istore_8 {x : q_X} {cc : ByteArray} {own : String} {fr lo pc : Nat} {st : List q_V} {Wd : List q_E} {a0 a1 a2 a3 a4 a5 a6 a7 a8 : Option q_V} {tl : List (Option q_V)} {v : Int32} (ok : q_ok x cc own fr lo) (hp : q_nol a7 = true) (hd : decode cc pc = .ok (.istore 8, 2)) (kk : q_W x (pc + 2) (a0 :: a1 :: a2 :: a3 :: a4 :: a5 :: a6 :: a7 :: some (.inl v) :: tl) st Wd) : q_W x pc (a0 :: a1 :: a2 :: a3 :: a4 :: a5 :: a6 :: a7 :: a8 :: tl) (.inl v :: st) Wd := q_istoreG (i := 8) ok (by show 8 < _; simp) hp hd kk
theorem q_astore_8 {x : q_X} {cc : ByteArray} {own : String} {fr lo pc : Nat} {st : List q_V} {Wd : List q_E} {a0 a1 a2 a3 a4 a5 a6 a7 a8 : Option q_V} {tl : List (Option q_V)} {v : Nat} (ok : q_ok x cc own fr lo) (hp : q_nol a7 = true) (hd : decode cc pc = .ok (.astore 8, 2)) (kk : q_W x (pc + 2) (a0 :: a1 :: a2 :: a3 :: a4 :: a5 :: a6 :: a7 :: some (.inr (.inr (some v))) :: tl) st Wd) : q_W x pc (a0 :: a1 :: a2 :: a3 :: a4 :: a5 :: a6 :: a7 :: a8 :: tl) (.inr (.inr (some v)) :: st) Wd := q_astoreG (i := 8) ok (by show 8 < _; simp) hp hd kk
theorem q_lstore_8 {x : q_X} {cc : ByteArray} {own : String} {fr lo pc : Nat} {st : List q_V} {Wd : List q_E} {a0 a1 a2 a3 a4 a5 a6 a7 a8 a9 : Option q_V} {tl : List (Option q_V)} {v : Int64} (ok : q_ok x cc own fr lo) (hp : q_nol a7 = true) (hd : decode cc pc = .ok (.lstore 8, 2)) (kk : q_W x (pc + 2) (a0 :: a1 :: a2 :: a3 :: a4 :: a5 :: a6 :: a7 :: some (.inr (.inl v)) :: none :: tl) st Wd) : q_W x pc (a0 :: a1 :: a2 :: a3 :: a4 :: a5 :: a6 :: a7 :: a8 :: a9 :: tl) (.inr (.inl v) :: st) Wd := q_lstoreG (i := 8) ok (by show 8 + 1 < _; simp) hp hd kk
theorem q_iinc_8 {x : q_X} {cc : ByteArray} {own : String} {fr lo pc : Nat} {st : List q_V} {Wd : List q_E} {a0 a1 a2 a3 a4 a5 a6 a7 : Option q_V} {tl : List (Option q_V)} {n : Int} {v : Int32} (u : Int32) (ok : q_ok x cc own fr lo) (hp : q_nol a7 = true) (hu : Int32.ofInt n = u) (hd : decode cc pc = .ok (.iinc 8 n, 3)) (kk : q_W x (pc + 3) (a0 :: a1 :: a2 :: a3 :: a4 :: a5 :: a6 :: a7 :: some (.inl (v + u)) :: tl) st Wd) : q_W x pc (a0 :: a1 :: a2 :: a3 :: a4 :: a5 :: a6 :: a7 :: some (.inl v) :: tl) st Wd := q_iincG (i := 8) ok rfl hp hd (by rw [hu]; exact kk)
theorem q_istore_9 {x : q_X} {cc : ByteArray} {own : String} {fr lo pc : Nat} {st : List q_V} {Wd : List q_E} {a0 a1 a2 a3 a4 a5 a6 a7 a8 a9 : Option q_V} {tl : List (Option q_V)} {v : Int32} (ok : q_ok x cc own fr lo) (hp : q_nol a8 = true) (hd : decode cc pc = .ok (.istore 9, 2)) (kk : q_W x (pc + 2) (a0 :: a1 :: a2 :: a3 :: a4 :: a5 :: a6 :: a7 :: a8 :: some (.inl v) :: tl) st Wd) : q_W x pc (a0 :: a1 :: a2 :: a3 :: a4 :: a5 :: a6 :: a7 :: a8 :: a9 :: tl) (.inl v :: st) Wd := q_istoreG (i := 9) ok (by show 9 < _; simp) hp hd kk
theorem q_astore_9 {x : q_X} {cc : ByteArray} {own : String} {fr lo pc : Nat} {st : List q_V} {Wd : List q_E} {a0 a1 a2 a3 a4 a5 a6 a7 a8 a9 : Option q_V} {tl : List (Option q_V)} {v : Nat} (ok : q_ok x cc own fr lo) (hp : q_nol a8 = true) (hd : decode cc pc = .ok (.astore 9, 2)) (kk : q_W x (pc + 2) (a0 :: a1 :: a2 :: a3 :: a4 :: a5 :: a6 :: a7 :: a8 :: some (.inr (.inr (some v))) :: tl) st Wd) : q_W x pc (a0 :: a1 :: a2 :: a3 :: a4 :: a5 :: a6 :: a7 :: a8 :: a9 :: tl) (.inr (.inr (some v)) :: st) Wd := q_astoreG (i := 9) ok (by show 9 < _; simp) hp hd kk
theorem q_lstore_9 {x : q_X} {cc : ByteArray} {own : String} {fr lo pc : Nat} {st : List q_V} {Wd : List q_E} {a0 a1 a2 a3 a4 a5 a6 a7 a8 a9 a10 : Option q_V} {tl : List (Option q_V)} {v : Int64} (ok : q_ok x cc own fr lo) (hp : q_nol a8 = true) (hd : decode cc pc = .ok (.lstore 9, 2)) (kk : q_W x (pc + 2) (a0 :: a1 :: a2 :: a3 :: a4 :: a5 :: a6 :: a7 :: a8 :: some (.inr (.inl v)) :: none :: tl) st Wd) : q_W x pc (a0 :: a1 :: a2 :: a3 :: a4 :: a5 :: a6 :: a7 :: a8 :: a9 :: a10 :: tl) (.inr (.inl v) :: st) Wd := q_lstoreG (i := 9) ok (by show 9 + 1 < _; simp) hp hd kk
theorem q_iinc_9 {x : q_X} {cc : ByteArray} {own : String} {fr lo pc : Nat} {st : List q_V} {Wd : List q_E} {a0 a1 a2 a3 a4 a5 a6 a7 a8 : Option q_V} {tl : List (Option q_V)} {n : Int} {v : Int32} (u : Int32) (ok : q_ok x cc own fr lo) (hp : q_nol a8 = true) (hu : Int32.ofInt n = u) (hd : decode cc pc = .ok (.iinc 9 n, 3)) (kk : q_W x (pc + 3) (a0 :: a1 :: a2 :: a3 :: a4 :: a5 :: a6 :: a7 :: a8 :: some (.inl (v + u)) :: tl) st Wd) : q_W x pc (a0 :: a1 :: a2 :: a3 :: a4 :: a5 :: a6 :: a7 :: a8 :: some (.inl v) :: tl) st Wd := q_iincG (i := 9) ok rfl hp hd (by rw [hu]; exact kk)
theorem q_istore_10 {x : q_X} {cc : ByteArray} {own : String} {fr lo pc : Nat} {st : List q_V} {Wd : List q_E} {a0 a1 a2 a3 a4 a5 a6 a7 a8 a9 a10 : Option q_V} {tl : List (Option q_V)} {v : Int32} (ok : q_ok x cc own fr lo) (hp : q_nol a9 = true) (hd : decode cc pc = .ok (.istore 10, 2)) (kk : q_W x (pc + 2) (a0 :: a1 :: a2 :: a3 :: a4 :: a5 :: a6 :: a7 :: a8 :: a9 :: some (.inl v) :: tl) st Wd) : q_W x pc (a0 :: a1 :: a2 :: a3 :: a4 :: a5 :: a6 :: a7 :: a8 :: a9 :: a10 :: tl) (.inl v :: st) Wd := q_istoreG (i := 10) ok (by show 10 < _; simp) hp hd kk
theorem q_lstore_10 {x : q_X} {cc : ByteArray} {own : String} {fr lo pc : Nat} {st : List q_V} {Wd : List q_E} {a0 a1 a2 a3 a4 a5 a6 a7 a8 a9 a10 a11 : Option q_V} {tl : List (Option q_V)} {v : Int64} (ok : q_ok x cc own fr lo) (hp : q_nol a9 = true) (hd : decode cc pc = .ok (.lstore 10, 2)) (kk : q_W x (pc + 2) (a0 :: a1 :: a2 :: a3 :: a4 :: a5 :: a6 :: a7 :: a8 :: a9 :: some (.inr (.inl v)) :: none :: tl) st Wd) : q_W x pc (a0 :: a1 :: a2 :: a3 :: a4 :: a5 :: a6 :: a7 :: a8 :: a9 :: a10 :: a11 :: tl) (.inr (.inl v) :: st) Wd := q_lstoreG (i := 10) ok (by show 10 + 1 < _; simp) hp hd kk
theorem q_iinc_10 {x : q_X} {cc : ByteArray} {own : String} {fr lo pc : Nat} {st : List q_V} {Wd : List q_E} {a0 a1 a2 a3 a4 a5 a6 a7 a8 a9 : Option q_V} {tl : List (Option q_V)} {n : Int} {v : Int32} (u : Int32) (ok : q_ok x cc own fr lo) (hp : q_nol a9 = true) (hu : Int32.ofInt n = u) (hd : decode cc pc = .ok (.iinc 10 n, 3)) (kk : q_W x (pc + 3) (a0 :: a1 :: a2 :: a3 :: a4 :: a5 :: a6 :: a7 :: a8 :: a9 :: some (.inl (v + u)) :: tl) st Wd) : q_W x pc (a0 :: a1 :: a2 :: a3 :: a4 :: a5 :: a6 :: a7 :: a8 :: a9 :: some (.inl v) :: tl) st Wd := q_iincG (i := 10) ok rfl hp hd (by rw [hu]; exact kk)
theorem q_istore_11 {x : q_X} {cc : ByteArray} {own : String} {fr lo pc : Nat} {st : List q_V} {Wd : List q_E} {a0 a1 a2 a3 a4 a5 a6 a7 a8 a9 a10 a11 : Option q_V} {tl : List (Option q_V)} {v : Int32} (ok : q_ok x cc own fr lo) (hp : q_nol a10 = true) (hd : decode cc pc = .ok (.istore 11, 2)) (kk : q_W x (pc + 2) (a0 :: a1 :: a2 :: a3 :: a4 :: a5 :: a6 :: a7 :: a8 :: a9 :: a10 :: some (.inl v) :: tl) st Wd) : q_W x pc (a0 :: a1 :: a2 :: a3 :: a4 :: a5 :: a6 :: a7 :: a8 :: a9 :: a10 :: a11 :: tl) (.inl v :: st) Wd := q_istoreG (i := 11) ok (by show 11 < _; simp) hp hd kk
theorem q_lstore_11 {x : q_X} {cc : ByteArray} {own : String} {fr lo pc : Nat} {st : List q_V} {Wd : List q_E} {a0 a1 a2 a3 a4 a5 a6 a7 a8 a9 a10 a11 a12 : Option q_V} {tl : List (Option q_V)} {v : Int64} (ok : q_ok x cc own fr lo) (hp : q_nol a10 = true) (hd : decode cc pc = .ok (.lstore 11, 2)) (kk : q_W x (pc + 2) (a0 :: a1 :: a2 :: a3 :: a4 :: a5 :: a6 :: a7 :: a8 :: a9 :: a10 :: some (.inr (.inl v)) :: none :: tl) st Wd) : q_W x pc (a0 :: a1 :: a2 :: a3 :: a4 :: a5 :: a6 :: a7 :: a8 :: a9 :: a10 :: a11 :: a12 :: tl) (.inr (.inl v) :: st) Wd := q_lstoreG (i := 11) ok (by show 11 + 1 < _; simp) hp hd kk
theorem q_iinc_11 {x : q_X} {cc : ByteArray} {own : String} {fr lo pc : Nat} {st : List q_V} {Wd : List q_E} {a0 a1 a2 a3 a4 a5 a6 a7 a8 a9 a10 : Option q_V} {tl : List (Option q_V)} {n : Int} {v : Int32} (u : Int32) (ok : q_ok x cc own fr lo) (hp : q_nol a10 = true) (hu : Int32.ofInt n = u) (hd : decode cc pc = .ok (.iinc 11 n, 3)) (kk : q_W x (pc + 3) (a0 :: a1 :: a2 :: a3 :: a4 :: a5 :: a6 :: a7 :: a8 :: a9 :: a10 :: some (.inl (v + u)) :: tl) st Wd) : q_W x pc (a0 :: a1 :: a2 :: a3 :: a4 :: a5 :: a6 :: a7 :: a8 :: a9 :: a10 :: some (.inl v) :: tl) st Wd := q_iincG (i := 11) ok rfl hp hd (by rw [hu]; exact kk)
theorem q_istore_12 {x : q_X} {cc : ByteArray} {own : String} {fr lo pc : Nat} {st : List q_V} {Wd : List q_E} {a0 a1 a2 a3 a4 a5 a6 a7 a8 a9 a10 a11 a12 : Option q_V} {tl : List (Option q_V)} {v : Int32} (ok : q_ok x cc own fr lo) (hp : q_nol a11 = true) (hd : decode cc pc = .ok (.istore 12, 2)) (kk : q_W x (pc + 2) (a0 :: a1 :: a2 :: a3 :: a4 :: a5 :: a6 :: a7 :: a8 :: a9 :: a10 :: a11 :: some (.inl v) :: tl) st Wd) : q_W x pc (a0 :: a1 :: a2 :: a3 :: a4 :: a5 :: a6 :: a7 :: a8 :: a9 :: a10 :: a11 :: a12 :: tl) (.inl v :: st) Wd := q_istoreG (i := 12) ok (by show 12 < _; simp) hp hd kk
theorem q_lstore_12 {x : q_X} {cc : ByteArray} {own : String} {fr lo pc : Nat} {st : List q_V} {Wd : List q_E} {a0 a1 a2 a3 a4 a5 a6 a7 a8 a9 a10 a11 a12 a13 : Option q_V} {tl : List (Option q_V)} {v : Int64} (ok : q_ok x cc own fr lo) (hp : q_nol a11 = true) (hd : decode cc pc = .ok (.lstore 12, 2)) (kk : q_W x (pc + 2) (a0 :: a1 :: a2 :: a3 :: a4 :: a5 :: a6 :: a7 :: a8 :: a9 :: a10 :: a11 :: some (.inr (.inl v)) :: none :: tl) st Wd) : q_W x pc (a0 :: a1 :: a2 :: a3 :: a4 :: a5 :: a6 :: a7 :: a8 :: a9 :: a10 :: a11 :: a12 :: a13 :: tl) (.inr (.inl v) :: st) Wd := q_lstoreG (i := 12) ok (by show 12 + 1 < _; simp) hp hd kk
theorem q_iinc_12 {x : q_X} {cc : ByteArray} {own : String} {fr lo pc : Nat} {st : List q_V} {Wd : List q_E} {a0 a1 a2 a3 a4 a5 a6 a7 a8 a9 a10 a11 : Option q_V} {tl : List (Option q_V)} {n : Int} {v : Int32} (u : Int32) (ok : q_ok x cc own fr lo) (hp : q_nol a11 = true) (hu : Int32.ofInt n = u) (hd : decode cc pc = .ok (.iinc 12 n, 3)) (kk : q_W x (pc + 3) (a0 :: a1 :: a2 :: a3 :: a4 :: a5 :: a6 :: a7 :: a8 :: a9 :: a10 :: a11 :: some (.inl (v + u)) :: tl) st Wd) : q_W x pc (a0 :: a1 :: a2 :: a3 :: a4 :: a5 :: a6 :: a7 :: a8 :: a9 :: a10 :: a11 :: some (.inl v) :: tl) st Wd := q_iincG (i := 12) ok rfl hp hd (by rw [hu]; exact kk)
theorem q_istore_13 {x : q_X} {cc : ByteArray} {own : String} {fr lo pc : Nat} {st : List q_V} {Wd : List q_E} {a0 a1 a2 a3 a4 a5 a6 a7 a8 a9 a10 a11 a12 a13 : Option q_V} {tl : List (Option q_V)} {v : Int32} (ok : q_ok x cc own fr lo) (hp : q_nol a12 = true) (hd : decode cc pc = .ok (.istore 13, 2)) (kk : q_W x (pc + 2) (a0 :: a1 :: a2 :: a3 :: a4 :: a5 :: a6 :: a7 :: a8 :: a9 :: a10 :: a11 :: a12 :: some (.inl v) :: tl) st Wd) : q_W x pc (a0 :: a1 :: a2 :: a3 :: a4 :: a5 :: a6 :: a7 :: a8 :: a9 :: a10 :: a11 :: a12 :: a13 :: tl) (.inl v :: st) Wd := q_istoreG (i := 13) ok (by show 13 < _; simp) hp hd kk
theorem q_lstore_13 {x : q_X} {cc : ByteArray} {own : String} {fr lo pc : Nat} {st : List q_V} {Wd : List q_E} {a0 a1 a2 a3 a4 a5 a6 a7 a8 a9 a10 a11 a12 a13 a14 : Option q_V} {tl : List (Option q_V)} {v : Int64} (ok : q_ok x cc own fr lo) (hp : q_nol a12 = true) (hd : decode cc pc = .ok (.lstore 13, 2)) (kk : q_W x (pc + 2) (a0 :: a1 :: a2 :: a3 :: a4 :: a5 :: a6 :: a7 :: a8 :: a9 :: a10 :: a11 :: a12 :: some (.inr (.inl v)) :: none :: tl) st Wd) : q_W x pc (a0 :: a1 :: a2 :: a3 :: a4 :: a5 :: a6 :: a7 :: a8 :: a9 :: a10 :: a11 :: a12 :: a13 :: a14 :: tl) (.inr (.inl v) :: st) Wd := q_lstoreG (i := 13) ok (by show 13 + 1 < _; simp) hp hd kk
theorem q_iinc_13 {x : q_X} {cc : ByteArray} {own : String} {fr lo pc : Nat} {st : List q_V} {Wd : List q_E} {a0 a1 a2 a3 a4 a5 a6 a7 a8 a9 a10 a11 a12 : Option q_V} {tl : List (Option q_V)} {n : Int} {v : Int32} (u : Int32) (ok : q_ok x cc own fr lo) (hp : q_nol a12 = true) (hu : Int32.ofInt n = u) (hd : decode cc pc = .ok (.iinc 13 n, 3)) (kk : q_W x (pc + 3) (a0 :: a1 :: a2 :: a3 :: a4 :: a5 :: a6 :: a7 :: a8 :: a9 :: a10 :: a11 :: a12 :: some (.inl (v + u)) :: tl) st Wd) : q_W x pc (a0 :: a1 :: a2 :: a3 :: a4 :: a5 :: a6 :: a7 :: a8 :: a9 :: a10 :: a11 :: a12 :: some (.inl v) :: tl) st Wd := q_iincG (i := 13) ok rfl hp hd (by rw [hu]; exact kk)
theorem q_istore_14 {x : q_X} {cc : ByteArray} {own : String} {fr lo pc : Nat} {st : List q_V} {Wd : List q_E} {a0 a1 a2 a3 a4 a5 a6 a7 a8 a9 a10 a11 a12 a13 a14 : Option q_V} {tl : List (Option q_V)} {v : Int32} (ok : q_ok x cc own fr lo) (hp : q_nol a13 = true) (hd : decode cc pc = .ok (.istore 14, 2)) (kk : q_W x (pc + 2) (a0 :: a1 :: a2 :: a3 :: a4 :: a5 :: a6 :: a7 :: a8 :: a9 :: a10 :: a11 :: a12 :: a13 :: some (.inl v) :: tl) st Wd) : q_W x pc (a0 :: a1 :: a2 :: a3 :: a4 :: a5 :: a6 :: a7 :: a8 :: a9 :: a10 :: a11 :: a12 :: a13 :: a14 :: tl) (.inl v :: st) Wd := q_istoreG (i := 14) ok (by show 14 < _; simp) hp hd kk
theorem q_lstore_14 {x : q_X} {cc : ByteArray} {own : String} {fr lo pc : Nat} {st : List q_V} {Wd : List q_E} {a0 a1 a2 a3 a4 a5 a6 a7 a8 a9 a10 a11 a12 a13 a14 a15 : Option q_V} {tl : List (Option q_V)} {v : Int64} (ok : q_ok x cc own fr lo) (hp : q_nol a13 = true) (hd : decode cc pc = .ok (.lstore 14, 2)) (kk : q_W x (pc + 2) (a0 :: a1 :: a2 :: a3 :: a4 :: a5 :: a6 :: a7 :: a8 :: a9 :: a10 :: a11 :: a12 :: a13 :: some (.inr (.inl v)) :: none :: tl) st Wd) : q_W x pc (a0 :: a1 :: a2 :: a3 :: a4 :: a5 :: a6 :: a7 :: a8 :: a9 :: a10 :: a11 :: a12 :: a13 :: a14 :: a15 :: tl) (.inr (.inl v) :: st) Wd := q_lstoreG (i := 14) ok (by show 14 + 1 < _; simp) hp hd kk
theorem q_iinc_14 {x : q_X} {cc : ByteArray} {own : String} {fr lo pc : Nat} {st : List q_V} {Wd : List q_E} {a0 a1 a2 a3 a4 a5 a6 a7 a8 a9 a10 a11 a12 a13 : Option q_V} {tl : List (Option q_V)} {n : Int} {v : Int32} (u : Int32) (ok : q_ok x cc own fr lo) (hp : q_nol a13 = true) (hu : Int32.ofInt n = u) (hd : decode cc pc = .ok (.iinc 14 n, 3)) (kk : q_W x (pc + 3) (a0 :: a1 :: a2 :: a3 :: a4 :: a5 :: a6 :: a7 :: a8 :: a9 :: a10 :: a11 :: a12 :: a13 :: some (.inl (v + u)) :: tl) st Wd) : q_W x pc (a0 :: a1 :: a2 :: a3 :: a4 :: a5 :: a6 :: a7 :: a8 :: a9 :: a10 :: a11 :: a12 :: a13 :: some (.inl v) :: tl) st Wd := q_iincG (i := 14) ok rfl hp hd (by rw [hu]; exact kk)
theorem q_istore_15 {x : q_X} {cc : ByteArray} {own : String} {fr lo pc : Nat} {st : List q_V} {Wd : List q_E} {a0 a1 a2 a3 a4 a5 a6 a7 a8 a9 a10 a11 a12 a13 a14 a15 : Option q_V} {tl : List (Option q_V)} {v : Int32} (ok : q_ok x cc own fr lo) (hp : q_nol a14 = true) (hd : decode cc pc = .ok (.istore 15, 2)) (kk : q_W x (pc + 2) (a0 :: a1 :: a2 :: a3 :: a4 :: a5 :: a6 :: a7 :: a8 :: a9 :: a10 :: a11 :: a12 :: a13 :: a14 :: some (.inl v) :: tl) st Wd) : q_W x pc (a0 :: a1 :: a2 :: a3 :: a4 :: a5 :: a6 :: a7 :: a8 :: a9 :: a10 :: a11 :: a12 :: a13 :: a14 :: a15 :: tl) (.inl v :: st) Wd := q_istoreG (i := 15) ok (by show 15 < _; simp) hp hd kk
theorem q_lstore_15 {x : q_X} {cc : ByteArray} {own : String} {fr lo pc : Nat} {st : List q_V} {Wd : List q_E} {a0 a1 a2 a3 a4 a5 a6 a7 a8 a9 a10 a11 a12 a13 a14 a15 a16 : Option q_V} {tl : List (Option q_V)} {v : Int64} (ok : q_ok x cc own fr lo) (hp : q_nol a14 = true) (hd : decode cc pc = .ok (.lstore 15, 2)) (kk : q_W x (pc + 2) (a0 :: a1 :: a2 :: a3 :: a4 :: a5 :: a6 :: a7 :: a8 :: a9 :: a10 :: a11 :: a12 :: a13 :: a14 :: some (.inr (.inl v)) :: none :: tl) st Wd) : q_W x pc (a0 :: a1 :: a2 :: a3 :: a4 :: a5 :: a6 :: a7 :: a8 :: a9 :: a10 :: a11 :: a12 :: a13 :: a14 :: a15 :: a16 :: tl) (.inr (.inl v) :: st) Wd := q_lstoreG (i := 15) ok (by show 15 + 1 < _; simp) hp hd kk
theorem q_iinc_15 {x : q_X} {cc : ByteArray} {own : String} {fr lo pc : Nat} {st : List q_V} {Wd : List q_E} {a0 a1 a2 a3 a4 a5 a6 a7 a8 a9 a10 a11 a12 a13 a14 : Option q_V} {tl : List (Option q_V)} {n : Int} {v : Int32} (u : Int32) (ok : q_ok x cc own fr lo) (hp : q_nol a14 = true) (hu : Int32.ofInt n = u) (hd : decode cc pc = .ok (.iinc 15 n, 3)) (kk : q_W x (pc + 3) (a0 :: a1 :: a2 :: a3 :: a4 :: a5 :: a6 :: a7 :: a8 :: a9 :: a10 :: a11 :: a12 :: a13 :: a14 :: some (.inl (v + u)) :: tl) st Wd) : q_W x pc (a0 :: a1 :: a2 :: a3 :: a4 :: a5 :: a6 :: a7 :: a8 :: a9 :: a10 :: a11 :: a12 :: a13 :: a14 :: some (.inl v) :: tl) st Wd := q_iincG (i := 15) ok rfl hp hd (by rw [hu]; exact kk)
theorem q_istore_16 {x : q_X} {cc : ByteArray} {own : String} {fr lo pc : Nat} {st : List q_V} {Wd : List q_E} {a0 a1 a2 a3 a4 a5 a6 a7 a8 a9 a10 a11 a12 a13 a14 a15 a16 : Option q_V} {tl : List (Option q_V)} {v : Int32} (ok : q_ok x cc own fr lo) (hp : q_nol a15 = true) (hd : decode cc pc = .ok (.istore 16, 2)) (kk : q_W x (pc + 2) (a0 :: a1 :: a2 :: a3 :: a4 :: a5 :: a6 :: a7 :: a8 :: a9 :: a10 :: a11 :: a12 :: a13 :: a14 :: a15 :: some (.inl v) :: tl) st Wd) : q_W x pc (a0 :: a1 :: a2 :: a3 :: a4 :: a5 :: a6 :: a7 :: a8 :: a9 :: a10 :: a11 :: a12 :: a13 :: a14 :: a15 :: a16 :: tl) (.inl v :: st) Wd := q_istoreG (i := 16) ok (by show 16 < _; simp) hp hd kk
theorem q_lstore_16 {x : q_X} {cc : ByteArray} {own : String} {fr lo pc : Nat} {st : List q_V} {Wd : List q_E} {a0 a1 a2 a3 a4 a5 a6 a7 a8 a9 a10 a11 a12 a13 a14 a15 a16 a17 : Option q_V} {tl : List (Option q_V)} {v : Int64} (ok : q_ok x cc own fr lo) (hp : q_nol a15 = true) (hd : decode cc pc = .ok (.lstore 16, 2)) (kk : q_W x (pc + 2) (a0 :: a1 :: a2 :: a3 :: a4 :: a5 :: a6 :: a7 :: a8 :: a9 :: a10 :: a11 :: a12 :: a13 :: a14 :: a15 :: some (.inr (.inl v)) :: none :: tl) st Wd) : q_W x pc (a0 :: a1 :: a2 :: a3 :: a4 :: a5 :: a6 :: a7 :: a8 :: a9 :: a10 :: a11 :: a12 :: a13 :: a14 :: a15 :: a16 :: a17 :: tl) (.inr (.inl v) :: st) Wd := q_lstoreG (i := 16) ok (by show 16 + 1 < _; simp) hp hd kk
theorem q_iinc_16 {x : q_X} {cc : ByteArray} {own : String} {fr lo pc : Nat} {st : List q_V} {Wd : List q_E} {a0 a1 a2 a3 a4 a5 a6 a7 a8 a9 a10 a11 a12 a13 a14 a15 : Option q_V} {tl : List (Option q_V)} {n : Int} {v : Int32} (u : Int32) (ok : q_ok x cc own fr lo) (hp : q_nol a15 = true) (hu : Int32.ofInt n = u) (hd : decode cc pc = .ok (.iinc 16 n, 3)) (kk : q_W x (pc + 3) (a0 :: a1 :: a2 :: a3 :: a4 :: a5 :: a6 :: a7 :: a8 :: a9 :: a10 :: a11 :: a12 :: a13 :: a14 :: a15 :: some (.inl (v + u)) :: tl) st Wd) : q_W x pc (a0 :: a1 :: a2 :: a3 :: a4 :: a5 :: a6 :: a7 :: a8 :: a9 :: a10 :: a11 :: a12 :: a13 :: a14 :: a15 :: some (.inl v) :: tl) st Wd := q_iincG (i := 16) ok rfl hp hd (by rw [hu]; exact kk)
theorem q_istore_17 {x : q_X} {cc : ByteArray} {own : String} {fr lo pc : Nat} {st : List q_V} {Wd : List q_E} {a0 a1 a2 a3 a4 a5 a6 a7 a8 a9 a10 a11 a12 a13 a14 a15 a16 a17 : Option q_V} {tl : List (Option q_V)} {v : Int32} (ok : q_ok x cc own fr lo) (hp : q_nol a16 = true) (hd : decode cc pc = .ok (.istore 17, 2)) (kk : q_W x (pc + 2) (a0 :: a1 :: a2 :: a3 :: a4 :: a5 :: a6 :: a7 :: a8 :: a9 :: a10 :: a11 :: a12 :: a13 :: a14 :: a15 :: a16 :: some (.inl v) :: tl) st Wd) : q_W x pc (a0 :: a1 :: a2 :: a3 :: a4 :: a5 :: a6 :: a7 :: a8 :: a9 :: a10 :: a11 :: a12 :: a13 :: a14 :: a15 :: a16 :: a17 :: tl) (.inl v :: st) Wd := q_istoreG (i := 17) ok (by show 17 < _; simp) hp hd kk
theorem q_lstore_17 {x : q_X} {cc : ByteArray} {own : String} {fr lo pc : Nat} {st : List q_V} {Wd : List q_E} {a0 a1 a2 a3 a4 a5 a6 a7 a8 a9 a10 a11 a12 a13 a14 a15 a16 a17 a18 : Option q_V} {tl : List (Option q_V)} {v : Int64} (ok : q_ok x cc own fr lo) (hp : q_nol a16 = true) (hd : decode cc pc = .ok (.lstore 17, 2)) (kk : q_W x (pc + 2) (a0 :: a1 :: a2 :: a3 :: a4 :: a5 :: a6 :: a7 :: a8 :: a9 :: a10 :: a11 :: a12 :: a13 :: a14 :: a15 :: a16 :: some (.inr (.inl v)) :: none :: tl) st Wd) : q_W x pc (a0 :: a1 :: a2 :: a3 :: a4 :: a5 :: a6 :: a7 :: a8 :: a9 :: a10 :: a11 :: a12 :: a13 :: a14 :: a15 :: a16 :: a17 :: a18 :: tl) (.inr (.inl v) :: st) Wd := q_lstoreG (i := 17) ok (by show 17 + 1 < _; simp) hp hd kk
theorem q_iinc_17 {x : q_X} {cc : ByteArray} {own : String} {fr lo pc : Nat} {st : List q_V} {Wd : List q_E} {a0 a1 a2 a3 a4 a5 a6 a7 a8 a9 a10 a11 a12 a13 a14 a15 a16 : Option q_V} {tl : List (Option q_V)} {n : Int} {v : Int32} (u : Int32) (ok : q_ok x cc own fr lo) (hp : q_nol a16 = true) (hu : Int32.ofInt n = u) (hd : decode cc pc = .ok (.iinc 17 n, 3)) (kk : q_W x (pc + 3) (a0 :: a1 :: a2 :: a3 :: a4 :: a5 :: a6 :: a7 :: a8 :: a9 :: a10 :: a11 :: a12 :: a13 :: a14 :: a15 :: a16 :: some (.inl (v + u)) :: tl) st Wd) : q_W x pc (a0 :: a1 :: a2 :: a3 :: a4 :: a5 :: a6 :: a7 :: a8 :: a9 :: a10 :: a11 :: a12 :: a13 :: a14 :: a15 :: a16 :: some (.inl v) :: tl) st Wd := q_iincG (i := 17) ok rfl hp hd (by rw [hu]; exact kk)
theorem q_istore_18 {x : q_X} {cc : ByteArray} {own : String} {fr lo pc : Nat} {st : List q_V} {Wd : List q_E} {a0 a1 a2 a3 a4 a5 a6 a7 a8 a9 a10 a11 a12 a13 a14 a15 a16 a17 a18 : Option q_V} {tl : List (Option q_V)} {v : Int32} (ok : q_ok x cc own fr lo) (hp : q_nol a17 = true) (hd : decode cc pc = .ok (.istore 18, 2)) (kk : q_W x (pc + 2) (a0 :: a1 :: a2 :: a3 :: a4 :: a5 :: a6 :: a7 :: a8 :: a9 :: a10 :: a11 :: a12 :: a13 :: a14 :: a15 :: a16 :: a17 :: some (.inl v) :: tl) st Wd) : q_W x pc (a0 :: a1 :: a2 :: a3 :: a4 :: a5 :: a6 :: a7 :: a8 :: a9 :: a10 :: a11 :: a12 :: a13 :: a14 :: a15 :: a16 :: a17 :: a18 :: tl) (.inl v :: st) Wd := q_istoreG (i := 18) ok (by show 18 < _; simp) hp hd kk
theorem q_lstore_18 {x : q_X} {cc : ByteArray} {own : String} {fr lo pc : Nat} {st : List q_V} {Wd : List q_E} {a0 a1 a2 a3 a4 a5 a6 a7 a8 a9 a10 a11 a12 a13 a14 a15 a16 a17 a18 a19 : Option q_V} {tl : List (Option q_V)} {v : Int64} (ok : q_ok x cc own fr lo) (hp : q_nol a17 = true) (hd : decode cc pc = .ok (.lstore 18, 2)) (kk : q_W x (pc + 2) (a0 :: a1 :: a2 :: a3 :: a4 :: a5 :: a6 :: a7 :: a8 :: a9 :: a10 :: a11 :: a12 :: a13 :: a14 :: a15 :: a16 :: a17 :: some (.inr (.inl v)) :: none :: tl) st Wd) : q_W x pc (a0 :: a1 :: a2 :: a3 :: a4 :: a5 :: a6 :: a7 :: a8 :: a9 :: a10 :: a11 :: a12 :: a13 :: a14 :: a15 :: a16 :: a17 :: a18 :: a19 :: tl) (.inr (.inl v) :: st) Wd := q_lstoreG (i := 18) ok (by show 18 + 1 < _; simp) hp hd kk
theorem q_iinc_18 {x : q_X} {cc : ByteArray} {own : String} {fr lo pc : Nat} {st : List q_V} {Wd : List q_E} {a0 a1 a2 a3 a4 a5 a6 a7 a8 a9 a10 a11 a12 a13 a14 a15 a16 a17 : Option q_V} {tl : List (Option q_V)} {n : Int} {v : Int32} (u : Int32) (ok : q_ok x cc own fr lo) (hp : q_nol a17 = true) (hu : Int32.ofInt n = u) (hd : decode cc pc = .ok (.iinc 18 n, 3)) (kk : q_W x (pc + 3) (a0 :: a1 :: a2 :: a3 :: a4 :: a5 :: a6 :: a7 :: a8 :: a9 :: a10 :: a11 :: a12 :: a13 :: a14 :: a15 :: a16 :: a17 :: some (.inl (v + u)) :: tl) st Wd) : q_W x pc (a0 :: a1 :: a2 :: a3 :: a4 :: a5 :: a6 :: a7 :: a8 :: a9 :: a10 :: a11 :: a12 :: a13 :: a14 :: a15 :: a16 :: a17 :: some (.inl v) :: tl) st Wd := q_iincG (i := 18) ok rfl hp hd (by rw [hu]; exact kk)
theorem q_istore_19 {x : q_X} {cc : ByteArray} {own : String} {fr lo pc : Nat} {st : List q_V} {Wd : List q_E} {a0 a1 a2 a3 a4 a5 a6 a7 a8 a9 a10 a11 a12 a13 a14 a15 a16 a17 a18 a19 : Option q_V} {tl : List (Option q_V)} {v : Int32} (ok : q_ok x cc own fr lo) (hp : q_nol a18 = true) (hd : decode cc pc = .ok (.istore 19, 2)) (kk : q_W x (pc + 2) (a0 :: a1 :: a2 :: a3 :: a4 :: a5 :: a6 :: a7 :: a8 :: a9 :: a10 :: a11 :: a12 :: a13 :: a14 :: a15 :: a16 :: a17 :: a18 :: some (.inl v) :: tl) st Wd) : q_W x pc (a0 :: a1 :: a2 :: a3 :: a4 :: a5 :: a6 :: a7 :: a8 :: a9 :: a10 :: a11 :: a12 :: a13 :: a14 :: a15 :: a16 :: a17 :: a18 :: a19 :: tl) (.inl v :: st) Wd := q_istoreG (i := 19) ok (by show 19 < _; simp) hp hd kk
theorem q_lstore_19 {x : q_X} {cc : ByteArray} {own : String} {fr lo pc : Nat} {st : List q_V} {Wd : List q_E} {a0 a1 a2 a3 a4 a5 a6 a7 a8 a9 a10 a11 a12 a13 a14 a15 a16 a17 a18 a19 a20 : Option q_V} {tl : List (Option q_V)} {v : Int64} (ok : q_ok x cc own fr lo) (hp : q_nol a18 = true) (hd : decode cc pc = .ok (.lstore 19, 2)) (kk : q_W x (pc + 2) (a0 :: a1 :: a2 :: a3 :: a4 :: a5 :: a6 :: a7 :: a8 :: a9 :: a10 :: a11 :: a12 :: a13 :: a14 :: a15 :: a16 :: a17 :: a18 :: some (.inr (.inl v)) :: none :: tl) st Wd) : q_W x pc (a0 :: a1 :: a2 :: a3 :: a4 :: a5 :: a6 :: a7 :: a8 :: a9 :: a10 :: a11 :: a12 :: a13 :: a14 :: a15 :: a16 :: a17 :: a18 :: a19 :: a20 :: tl) (.inr (.inl v) :: st) Wd := q_lstoreG (i := 19) ok (by show 19 + 1 < _; simp) hp hd kk
theorem q_iinc_19 {x : q_X} {cc : ByteArray} {own : String} {fr lo pc : Nat} {st : List q_V} {Wd : List q_E} {a0 a1 a2 a3 a4 a5 a6 a7 a8 a9 a10 a11 a12 a13 a14 a15 a16 a17 a18 : Option q_V} {tl : List (Option q_V)} {n : Int} {v : Int32} (u : Int32) (ok : q_ok x cc own fr lo) (hp : q_nol a18 = true) (hu : Int32.ofInt n = u) (hd : decode cc pc = .ok (.iinc 19 n, 3)) (kk : q_W x (pc + 3) (a0 :: a1 :: a2 :: a3 :: a4 :: a5 :: a6 :: a7 :: a8 :: a9 :: a10 :: a11 :: a12 :: a13 :: a14 :: a15 :: a16 :: a17 :: a18 :: some (.inl (v + u)) :: tl) st Wd) : q_W x pc (a0 :: a1 :: a2 :: a3 :: a4 :: a5 :: a6 :: a7 :: a8 :: a9 :: a10 :: a11 :: a12 :: a13 :: a14 :: a15 :: a16 :: a17 :: a18 :: some (.inl v) :: tl) st Wd := q_iincG (i := 19) ok rfl hp hd (by rw [hu]; exact kk)
theorem q_istore_20 {x : q_X} {cc : ByteArray} {own : String} {fr lo pc : Nat} {st : List q_V} {Wd : List q_E} {a0 a1 a2 a3 a4 a5 a6 a7 a8 a9 a10 a11 a12 a13 a14 a15 a16 a17 a18 a19 a20 : Option q_V} {tl : List (Option q_V)} {v : Int32} (ok : q_ok x cc own fr lo) (hp : q_nol a19 = true) (hd : decode cc pc = .ok (.istore 20, 2)) (kk : q_W x (pc + 2) (a0 :: a1 :: a2 :: a3 :: a4 :: a5 :: a6 :: a7 :: a8 :: a9 :: a10 :: a11 :: a12 :: a13 :: a14 :: a15 :: a16 :: a17 :: a18 :: a19 :: some (.inl v) :: tl) st Wd) : q_W x pc (a0 :: a1 :: a2 :: a3 :: a4 :: a5 :: a6 :: a7 :: a8 :: a9 :: a10 :: a11 :: a12 :: a13 :: a14 :: a15 :: a16 :: a17 :: a18 :: a19 :: a20 :: tl) (.inl v :: st) Wd := q_istoreG (i := 20) ok (by show 20 < _; simp) hp hd kk
theorem q_lstore_20 {x : q_X} {cc : ByteArray} {own : String} {fr lo pc : Nat} {st : List q_V} {Wd : List q_E} {a0 a1 a2 a3 a4 a5 a6 a7 a8 a9 a10 a11 a12 a13 a14 a15 a16 a17 a18 a19 a20 a21 : Option q_V} {tl : List (Option q_V)} {v : Int64} (ok : q_ok x cc own fr lo) (hp : q_nol a19 = true) (hd : decode cc pc = .ok (.lstore 20, 2)) (kk : q_W x (pc + 2) (a0 :: a1 :: a2 :: a3 :: a4 :: a5 :: a6 :: a7 :: a8 :: a9 :: a10 :: a11 :: a12 :: a13 :: a14 :: a15 :: a16 :: a17 :: a18 :: a19 :: some (.inr (.inl v)) :: none :: tl) st Wd) : q_W x pc (a0 :: a1 :: a2 :: a3 :: a4 :: a5 :: a6 :: a7 :: a8 :: a9 :: a10 :: a11 :: a12 :: a13 :: a14 :: a15 :: a16 :: a17 :: a18 :: a19 :: a20 :: a21 :: tl) (.inr (.inl v) :: st) Wd := q_lstoreG (i := 20) ok (by show 20 + 1 < _; simp) hp hd kk
theorem q_iinc_20 {x : q_X} {cc : ByteArray} {own : String} {fr lo pc : Nat} {st : List q_V} {Wd : List q_E} {a0 a1 a2 a3 a4 a5 a6 a7 a8 a9 a10 a11 a12 a13 a14 a15 a16 a17 a18 a19 : Option q_V} {tl : List (Option q_V)} {n : Int} {v : Int32} (u : Int32) (ok : q_ok x cc own fr lo) (hp : q_nol a19 = true) (hu : Int32.ofInt n = u) (hd : decode cc pc = .ok (.iinc 20 n, 3)) (kk : q_W x (pc + 3) (a0 :: a1 :: a2 :: a3 :: a4 :: a5 :: a6 :: a7 :: a8 :: a9 :: a10 :: a11 :: a12 :: a13 :: a14 :: a15 :: a16 :: a17 :: a18 :: a19 :: some (.inl (v + u)) :: tl) st Wd) : q_W x pc (a0 :: a1 :: a2 :: a3 :: a4 :: a5 :: a6 :: a7 :: a8 :: a9 :: a10 :: a11 :: a12 :: a13 :: a14 :: a15 :: a16 :: a17 :: a18 :: a19 :: some (.inl v) :: tl) st Wd := q_iincG (i := 20) ok rfl hp hd (by rw [hu]; exact kk)
def q_le : List (Option q_V) → List (Option q_V) → Prop
  | [], [] => True
  | _ :: l, none :: l' => q_le l l'
  | some v :: l, some v' :: l' => v = v' ∧ q_le l l'
  | _, _ => False
theorem q_le_len : ∀ (l l' : List (Option q_V)), q_le l l' → l.length = l'.length
  | [], [], _ => rfl
  | [], _ :: _, h => by cases h
  | _ :: _, [], h => by rename_i a b; cases a <;> cases h
  | none :: l, none :: l', h => by simpa using q_le_len l l' h
  | some _ :: l, none :: l', h => by simpa using q_le_len l l' h
  | none :: l, some _ :: l', h => by cases h
  | some _ :: l, some _ :: l', h => by simpa using q_le_len l l' h.2
theorem q_le_mem (ad : Nat → Nat) : ∀ (l l' : List (Option q_V)) (i : Nat), q_le l l' → ∀ q ∈ q_lvl ad i l', q ∈ q_lvl ad i l
  | [], [], _, _, q, h => h
  | [], _ :: _, _, h, _, _ => by cases h
  | _ :: _, [], _, _, _, hq => by cases hq
  | none :: l, none :: l', i, h, q, hq => q_le_mem ad l l' (i + 1) h q hq
  | some _ :: l, none :: l', i, h, q, hq => List.mem_cons_of_mem _ (q_le_mem ad l l' (i + 1) h q hq)
  | none :: l, some _ :: l', _, h, _, _ => by cases h
  | some v :: l, some v' :: l', i, h, q, hq => by
    obtain ⟨rfl, h⟩ := h
    rcases List.mem_cons.mp hq with e | e
    · exact List.mem_cons.mpr (Or.inl e)
    · exact List.mem_cons.mpr (Or.inr (q_le_mem ad l l' (i + 1) h q e))
theorem q_fgt {x : q_X} {pc : Nat} {lv : List (Option q_V)} {st : List q_V} {Wd : List q_E} (lv2 : List (Option q_V)) (h : q_le lv lv2) (kk : q_W x pc lv2 st Wd) : q_W x pc lv st Wd := by
  obtain ⟨p, l, e, R, s, m, args, below, meth, c, A, H0, cells, slots, Q, D, cA, ad⟩ := x
  intro H locs ls hl hn hP hD hS
  have hz := q_le_len _ _ h
  exact kk H locs ls (by rw [← hz]; exact q_has_sub hl (q_le_mem ad _ _ 0 h)) (by rw [← hz]; exact hn) hP hD hS
theorem q_getG {x : q_X} {cc : ByteArray} {own : String} {fr lo pc : Nat} {lv : List (Option q_V)} {st : List q_V} {Wd : List q_E} {ix k ci f N : Nat} {C : String} {T : u_T} {fs : List q_V} {v : q_V} (ok : q_ok x cc own fr lo) (hcl : vwCl[ci]? = some (C, T, N)) (hin : ∀ w ∈ u_ws C T N, w ∈ wsL_law) (hf : f < N) (hl1 : Cond.fieldLink own ix C (T f).2.1 (T f).2.2.1 ∈ wsL_law) (hT : (T f).1 = C) (he : Wd[k]? = some (.inr (ci, fs))) (hv : fs[f]? = some v) (hd : decode cc pc = .ok (.getfield ix, 3)) (kk : q_W x (pc + 3) lv (v :: st) Wd) : q_W x pc lv (.inr (.inr (some k)) :: st) Wd := by
  obtain ⟨p, l, e, R, s, m, args, below, meth, c, A, H0, cells, slots, Q, D, cA, ad⟩ := x
  obtain ⟨hx, hb, hown, hts, hK, hA, hfr, hlo, hce, hsl⟩ := ok
  intro H locs ls hl hn hP hD hS
  exact va_get (fs := fs.map (q_cv ad)) (v := q_cv ad v) hx hb hts hin hown hK hP k (q_cw_get0 he) hcl f hf (hts _ hl1) (fun z h9 => by rw [hT] at h9; exact h9) (by rw [List.getElem?_map, hv]; rfl) hd (kk H locs ls hl hn hP hD hS)
theorem q_putiG {x : q_X} {cc : ByteArray} {own : String} {fr lo pc : Nat} {lv : List (Option q_V)} {st : List q_V} {Wd : List q_E} {ix k ci f N : Nat} {C : String} {T : u_T} {fs : List q_V} {v : Int32} (ok : q_ok x cc own fr lo) (hcl : vwCl[ci]? = some (C, T, N)) (hin : ∀ w ∈ u_ws C T N, w ∈ wsL_law) (ty0 : Nat → FieldType) (hty : ∀ k, k < N → parseFieldDescriptor (T k).2.2.1 = some (ty0 k)) (hnm : ∀ a, a < N → ∀ b, b < N → a ≠ b → (T a).2.1 ≠ (T b).2.1) (hf : f < N) (hl1 : Cond.fieldLink own ix C (T f).2.1 (T f).2.2.1 ∈ wsL_law) (hT : (T f).1 = C) (hfin : (T f).2.2.2 = false) (hdt : parseFieldDescriptor (T f).2.2.1 = some .int) (he : Wd[k]? = some (.inr (ci, fs))) (hlen : f < fs.length) (hd : decode cc pc = .ok (.putfield ix, 3)) (kk : q_W x (pc + 3) lv st (Wd.set k (.inr (ci, fs.set f (.inl v))))) : q_W x pc lv (.inl v :: .inr (.inr (some k)) :: st) Wd := by
  obtain ⟨p, l, e, R, s, m, args, below, meth, c, A, H0, cells, slots, Q, D, cA, ad⟩ := x
  obtain ⟨hx, hb, hown, hts, hK, hA, hfr, hlo, hce, hsl⟩ := ok
  intro H locs ls hl hn hP hD hS
  refine va_put (fs := fs.map (q_cv ad)) hx hb hts hin ty0 hty hnm hown hK hP hD hS k (q_cw_get0 he) hcl f hf (hts _ hl1) (fun z h9 => by rw [hT] at h9; exact h9) hfin hdt rfl rfl (by rw [List.length_map]; exact hlen) hd (fun H1 locs1 hP1 hD1 hS1 => ?_)
  have ee : (ad k, (Sum.inr (ci, (fs.map (q_cv ad)).set f (q_cv ad (.inl v))) : va_E)) = (ad k, q_ce cA ad (.inr (ci, fs.set f (.inl v)))) := by simp [q_ce, List.map_set]
  have hP2 : va_P D vwCl (List.set (q_cw cA ad 0 Wd) k (ad k, (Sum.inr (ci, (fs.map (q_cv ad)).set f (q_cv ad (.inl v))) : va_E))) H1 := hP1
  have hD2 : va_D A (List.set (q_cw cA ad 0 Wd) k (ad k, (Sum.inr (ci, (fs.map (q_cv ad)).set f (q_cv ad (.inl v))) : va_E))) := hD1
  rw [ee, q_cw_set0] at hP2 hD2
  exact kk H1 locs1 ls hl hn hP2 hD2 hS1
theorem q_putlG {x : q_X} {cc : ByteArray} {own : String} {fr lo pc : Nat} {lv : List (Option q_V)} {st : List q_V} {Wd : List q_E} {ix k ci f N : Nat} {C : String} {T : u_T} {fs : List q_V} {v : Int64} (ok : q_ok x cc own fr lo) (hcl : vwCl[ci]? = some (C, T, N)) (hin : ∀ w ∈ u_ws C T N, w ∈ wsL_law) (ty0 : Nat → FieldType) (hty : ∀ k, k < N → parseFieldDescriptor (T k).2.2.1 = some (ty0 k)) (hnm : ∀ a, a < N → ∀ b, b < N → a ≠ b → (T a).2.1 ≠ (T b).2.1) (hf : f < N) (hl1 : Cond.fieldLink own ix C (T f).2.1 (T f).2.2.1 ∈ wsL_law) (hT : (T f).1 = C) (hfin : (T f).2.2.2 = false) (hdt : parseFieldDescriptor (T f).2.2.1 = some .long) (he : Wd[k]? = some (.inr (ci, fs))) (hlen : f < fs.length) (hd : decode cc pc = .ok (.putfield ix, 3)) (kk : q_W x (pc + 3) lv st (Wd.set k (.inr (ci, fs.set f (.inr (.inl v)))))) : q_W x pc lv (.inr (.inl v) :: .inr (.inr (some k)) :: st) Wd := by
  obtain ⟨p, l, e, R, s, m, args, below, meth, c, A, H0, cells, slots, Q, D, cA, ad⟩ := x
  obtain ⟨hx, hb, hown, hts, hK, hA, hfr, hlo, hce, hsl⟩ := ok
  intro H locs ls hl hn hP hD hS
  refine va_put (fs := fs.map (q_cv ad)) hx hb hts hin ty0 hty hnm hown hK hP hD hS k (q_cw_get0 he) hcl f hf (hts _ hl1) (fun z h9 => by rw [hT] at h9; exact h9) hfin hdt rfl rfl (by rw [List.length_map]; exact hlen) hd (fun H1 locs1 hP1 hD1 hS1 => ?_)
  have ee : (ad k, (Sum.inr (ci, (fs.map (q_cv ad)).set f (q_cv ad (.inr (.inl v)))) : va_E)) = (ad k, q_ce cA ad (.inr (ci, fs.set f (.inr (.inl v))))) := by simp [q_ce, List.map_set]
  have hP2 : va_P D vwCl (List.set (q_cw cA ad 0 Wd) k (ad k, (Sum.inr (ci, (fs.map (q_cv ad)).set f (q_cv ad (.inr (.inl v)))) : va_E))) H1 := hP1
  have hD2 : va_D A (List.set (q_cw cA ad 0 Wd) k (ad k, (Sum.inr (ci, (fs.map (q_cv ad)).set f (q_cv ad (.inr (.inl v)))) : va_E))) := hD1
  rw [ee, q_cw_set0] at hP2 hD2
  exact kk H1 locs1 ls hl hn hP2 hD2 hS1
theorem q_ty0 (cA : Nat → ClassId) : (q_tys cA)[0]? = some (cA 0, .int) := rfl
theorem q_ty1 (cA : Nat → ClassId) : (q_tys cA)[1]? = some (cA 1, .long) := rfl
theorem q_ty2 (cA : Nat → ClassId) : (q_tys cA)[2]? = some (cA 2, .boolean) := rfl
theorem q_iald {x : q_X} {cc : ByteArray} {own : String} {fr lo pc : Nat} {lv : List (Option q_V)} {st : List q_V} {Wd : List q_E} {k n : Nat} {f : Nat → Int32} {i : Int32} (ok : q_ok x cc own fr lo) (he : Wd[k]? = some (.inl (0, n, .inl f))) (hin : vp_in i n) (hd : decode cc pc = .ok (.iaload, 1)) (kk : q_W x (pc + 1) lv (.inl (f i.toNatClampNeg) :: st) Wd) : q_W x pc lv (.inl i :: .inr (.inr (some k)) :: st) Wd := by
  obtain ⟨p, l, e, R, s, m, args, below, meth, c, A, H0, cells, slots, Q, D, cA, ad⟩ := x
  obtain ⟨hx, hb, hown, hts, hK, hA, hfr, hlo, hce, hsl⟩ := ok
  intro H locs ls hl hn hP hD hS
  exact va_iald hx hb hK hP k 0 (q_cw_get0 he) (q_ty0 cA) hin hd (kk H locs ls hl hn hP hD hS)
theorem q_zald {x : q_X} {cc : ByteArray} {own : String} {fr lo pc : Nat} {lv : List (Option q_V)} {st : List q_V} {Wd : List q_E} {k n : Nat} {f : Nat → Int32} {i : Int32} (ok : q_ok x cc own fr lo) (he : Wd[k]? = some (.inl (2, n, .inl f))) (hin : vp_in i n) (hd : decode cc pc = .ok (.baload, 1)) (kk : q_W x (pc + 1) lv (.inl (f i.toNatClampNeg) :: st) Wd) : q_W x pc lv (.inl i :: .inr (.inr (some k)) :: st) Wd := by
  obtain ⟨p, l, e, R, s, m, args, below, meth, c, A, H0, cells, slots, Q, D, cA, ad⟩ := x
  obtain ⟨hx, hb, hown, hts, hK, hA, hfr, hlo, hce, hsl⟩ := ok
  intro H locs ls hl hn hP hD hS
  exact va_zald hx hb hK hP k 2 (q_cw_get0 he) (q_ty2 cA) hin hd (kk H locs ls hl hn hP hD hS)
theorem q_lald {x : q_X} {cc : ByteArray} {own : String} {fr lo pc : Nat} {lv : List (Option q_V)} {st : List q_V} {Wd : List q_E} {k n : Nat} {f : Nat → Int64} {i : Int32} (ok : q_ok x cc own fr lo) (he : Wd[k]? = some (.inl (1, n, .inr f))) (hin : vp_in i n) (hd : decode cc pc = .ok (.laload, 1)) (kk : q_W x (pc + 1) lv (.inr (.inl (f i.toNatClampNeg)) :: st) Wd) : q_W x pc lv (.inl i :: .inr (.inr (some k)) :: st) Wd := by
  obtain ⟨p, l, e, R, s, m, args, below, meth, c, A, H0, cells, slots, Q, D, cA, ad⟩ := x
  obtain ⟨hx, hb, hown, hts, hK, hA, hfr, hlo, hce, hsl⟩ := ok
  intro H locs ls hl hn hP hD hS
  exact va_lald hx hb hK hP k 1 (q_cw_get0 he) (q_ty1 cA) hin hd (kk H locs ls hl hn hP hD hS)
theorem q_iast {x : q_X} {cc : ByteArray} {own : String} {fr lo pc : Nat} {lv : List (Option q_V)} {st : List q_V} {Wd : List q_E} {k n : Nat} {f : Nat → Int32} {i : Int32} {v : Int32} (ok : q_ok x cc own fr lo) (he : Wd[k]? = some (.inl (0, n, .inl f))) (hin : vp_in i n) (hd : decode cc pc = .ok (.iastore, 1)) (kk : q_W x (pc + 1) lv st (Wd.set k (.inl (0, n, .inl (upd f i.toNatClampNeg v))))) : q_W x pc lv (.inl v :: .inl i :: .inr (.inr (some k)) :: st) Wd := by
  obtain ⟨p, l, e, R, s, m, args, below, meth, c, A, H0, cells, slots, Q, D, cA, ad⟩ := x
  obtain ⟨hx, hb, hown, hts, hK, hA, hfr, hlo, hce, hsl⟩ := ok
  intro H locs ls hl hn hP hD hS
  refine va_iast hx hb hK hP hD hS k 0 (q_cw_get0 he) (q_ty0 cA) hin hd (fun H1 locs1 hP1 hD1 hS1 => ?_)
  have hP2 : va_P D vwCl (List.set (q_cw cA ad 0 Wd) k (ad k, q_ce cA ad (.inl (0, n, .inl (upd f i.toNatClampNeg v))))) H1 := hP1
  have hD2 : va_D A (List.set (q_cw cA ad 0 Wd) k (ad k, q_ce cA ad (.inl (0, n, .inl (upd f i.toNatClampNeg v))))) := hD1
  rw [q_cw_set0] at hP2 hD2
  exact kk H1 locs1 ls hl hn hP2 hD2 hS1
theorem q_zast {x : q_X} {cc : ByteArray} {own : String} {fr lo pc : Nat} {lv : List (Option q_V)} {st : List q_V} {Wd : List q_E} {k n : Nat} {f : Nat → Int32} {i : Int32} {v : Int32} (ok : q_ok x cc own fr lo) (he : Wd[k]? = some (.inl (2, n, .inl f))) (hin : vp_in i n) (hd : decode cc pc = .ok (.bastore, 1)) (kk : q_W x (pc + 1) lv st (Wd.set k (.inl (2, n, .inl (upd f i.toNatClampNeg (vp_nar .boolean v)))))) : q_W x pc lv (.inl v :: .inl i :: .inr (.inr (some k)) :: st) Wd := by
  obtain ⟨p, l, e, R, s, m, args, below, meth, c, A, H0, cells, slots, Q, D, cA, ad⟩ := x
  obtain ⟨hx, hb, hown, hts, hK, hA, hfr, hlo, hce, hsl⟩ := ok
  intro H locs ls hl hn hP hD hS
  refine va_zast hx hb hK hP hD hS k 2 (q_cw_get0 he) (q_ty2 cA) hin hd (fun H1 locs1 hP1 hD1 hS1 => ?_)
  have hP2 : va_P D vwCl (List.set (q_cw cA ad 0 Wd) k (ad k, q_ce cA ad (.inl (2, n, .inl (upd f i.toNatClampNeg (vp_nar .boolean v)))))) H1 := hP1
  have hD2 : va_D A (List.set (q_cw cA ad 0 Wd) k (ad k, q_ce cA ad (.inl (2, n, .inl (upd f i.toNatClampNeg (vp_nar .boolean v)))))) := hD1
  rw [q_cw_set0] at hP2 hD2
  exact kk H1 locs1 ls hl hn hP2 hD2 hS1
theorem q_last {x : q_X} {cc : ByteArray} {own : String} {fr lo pc : Nat} {lv : List (Option q_V)} {st : List q_V} {Wd : List q_E} {k n : Nat} {f : Nat → Int64} {i : Int32} {v : Int64} (ok : q_ok x cc own fr lo) (he : Wd[k]? = some (.inl (1, n, .inr f))) (hin : vp_in i n) (hd : decode cc pc = .ok (.lastore, 1)) (kk : q_W x (pc + 1) lv st (Wd.set k (.inl (1, n, .inr (vp_updL f i.toNatClampNeg v))))) : q_W x pc lv (.inr (.inl v) :: .inl i :: .inr (.inr (some k)) :: st) Wd := by
  obtain ⟨p, l, e, R, s, m, args, below, meth, c, A, H0, cells, slots, Q, D, cA, ad⟩ := x
  obtain ⟨hx, hb, hown, hts, hK, hA, hfr, hlo, hce, hsl⟩ := ok
  intro H locs ls hl hn hP hD hS
  refine va_last hx hb hK hP hD hS k 1 (q_cw_get0 he) (q_ty1 cA) hin hd (fun H1 locs1 hP1 hD1 hS1 => ?_)
  have hP2 : va_P D vwCl (List.set (q_cw cA ad 0 Wd) k (ad k, q_ce cA ad (.inl (1, n, .inr (vp_updL f i.toNatClampNeg v))))) H1 := hP1
  have hD2 : va_D A (List.set (q_cw cA ad 0 Wd) k (ad k, q_ce cA ad (.inl (1, n, .inr (vp_updL f i.toNatClampNeg v))))) := hD1
  rw [q_cw_set0] at hP2 hD2
  exact kk H1 locs1 ls hl hn hP2 hD2 hS1
theorem q_alen {x : q_X} {cc : ByteArray} {own : String} {fr lo pc : Nat} {lv : List (Option q_V)} {st : List q_V} {Wd : List q_E} {k t n : Nat} {g : (Nat → Int32) ⊕ (Nat → Int64)} (ok : q_ok x cc own fr lo) (he : Wd[k]? = some (.inl (t, n, g))) (ht : t < 3) (hd : decode cc pc = .ok (.arraylength, 1)) (kk : q_W x (pc + 1) lv (.inl (nI n) :: st) Wd) : q_W x pc lv (.inr (.inr (some k)) :: st) Wd := by
  obtain ⟨p, l, e, R, s, m, args, below, meth, c, A, H0, cells, slots, Q, D, cA, ad⟩ := x
  obtain ⟨hx, hb, hown, hts, hK, hA, hfr, hlo, hce, hsl⟩ := ok
  intro H locs ls hl hn hP hD hS
  have h1 := q_cw_get0 (cA := cA) (ad := ad) he
  rcases g with g | g
  · rcases (show t = 0 ∨ t = 1 ∨ t = 2 by omega) with rfl | rfl | rfl
    · exact va_alen hx hb hK hP k 0 h1 (q_ty0 cA) rfl hd (kk H locs ls hl hn hP hD hS)
    · exact va_alen hx hb hK hP k 1 h1 (q_ty1 cA) rfl hd (kk H locs ls hl hn hP hD hS)
    · exact va_alen hx hb hK hP k 2 h1 (q_ty2 cA) rfl hd (kk H locs ls hl hn hP hD hS)
  · rcases (show t = 0 ∨ t = 1 ∨ t = 2 by omega) with rfl | rfl | rfl
    · exact va_alen hx hb hK hP k 0 h1 (q_ty0 cA) rfl hd (kk H locs ls hl hn hP hD hS)
    · exact va_alen hx hb hK hP k 1 h1 (q_ty1 cA) rfl hd (kk H locs ls hl hn hP hD hS)
    · exact va_alen hx hb hK hP k 2 h1 (q_ty2 cA) rfl hd (kk H locs ls hl hn hP hD hS)
end
section
-- CONTRACTS over the abstract layer: what a method owes, its ends, its calls
def q_Q (D : va_G) (cA : Nat → ClassId) (ad : Nat → Nat) (K : Option q_V → List q_E → Prop) (A : Nat → Prop) : Array Value → State → Outcome → State → Prop := fun _ st oc t => (∃ (r : Option q_V) (Wd : List q_E), oc = .returned (r.map (q_cv ad)) ∧ K r Wd ∧ va_P D vwCl (q_cw cA ad 0 Wd) t.heap ∧ va_K D vwCl (q_tys cA) t ∧ va_D A (q_cw cA ad 0 Wd)) ∧ va_F A st t
def q_B (D : va_G) (cA : Nat → ClassId) (ad : Nat → Nat) (sz : Nat) (Wd : List q_E) : State → Prop := fun U => U.heap.size = sz ∧ va_P D vwCl (q_cw cA ad 0 Wd) U.heap ∧ va_K D vwCl (q_tys cA) U ∧ va_D (fun _ => True) (q_cw cA ad 0 Wd)
def q_ws (y : MethodName) (b : ByteArray) (n : Nat) (ret : Option FieldType) : List Cond := .code y b n ret :: wsL_law
def q_rm (fr lo : Nat) : Room := { frames := fr, cells := 0, slots := 0, locals := lo }
def q_lv0 : List q_V → List (Option q_V)
  | [] => []
  | .inr (.inl v) :: l => some (.inr (.inl v)) :: none :: q_lv0 l
  | .inl v :: l => some (.inl v) :: q_lv0 l
  | .inr (.inr v) :: l => some (.inr (.inr v)) :: q_lv0 l
def q_ent (as : List q_V) (n : Nat) : List (Option q_V) := q_lv0 as ++ List.replicate (n - (q_lv0 as).length) none
def q_Ct (y : MethodName) (b : ByteArray) (n : Nat) (ret : Option FieldType) (fr lo : Nat) (spec : List q_V → List q_E → (Option q_V → List q_E → Prop) → Prop) : Prop :=
  ∀ (l : Launch) (D : va_G) (cA : Nat → ClassId) (ad : Nat → Nat) (sz : Nat) (as : List q_V) (Wd : List q_E) (K : Option q_V → List q_E → Prop), (q_lv0 as).length ≤ n → spec as Wd K → Met l y (q_ws y b n ret) (q_rm fr lo) (va_Pc (as.map (q_cv ad)) (q_B D cA ad sz Wd)) (q_Q D cA ad K (va_A (q_cw cA ad 0 Wd) sz)) 0 0 (va_A (q_cw cA ad 0 Wd) sz)
def q_fin (x : q_X) (ret : Option FieldType) (K : Option q_V → List q_E → Prop) : Prop := match x with
  | (p, l, e, R, s, m, args, below, meth, c, A, H0, cells, slots, Q, D, cA, ad) => meth.sig.returnType = ret ∧ meth.locks = false ∧ cells = 0 ∧ slots = 0 ∧ H0 = s.heap ∧ Q = MQ below (q_Q D cA ad K A) args s 0 0 A
theorem q_lvl_none (ad : Nat → Nat) : ∀ (k i : Nat), q_lvl ad i (List.replicate k none) = []
  | 0, i => rfl
  | k + 1, i => by rw [List.replicate_succ, q_lvl]; exact q_lvl_none ad k (i + 1)
theorem q_lvl_app (ad : Nat → Nat) : ∀ (l l2 : List (Option q_V)) (i : Nat), q_lvl ad i (l ++ l2) = q_lvl ad i l ++ q_lvl ad (i + l.length) l2
  | [], l2, i => by simp [q_lvl]
  | none :: l, l2, i => by
    simp only [List.cons_append, q_lvl, List.length_cons]
    rw [q_lvl_app ad l l2 (i + 1), show i + 1 + l.length = i + (l.length + 1) by omega]
  | some v :: l, l2, i => by
    simp only [List.cons_append, q_lvl, List.length_cons]
    rw [q_lvl_app ad l l2 (i + 1), show i + 1 + l.length = i + (l.length + 1) by omega]
theorem q_lvl_args (ad : Nat → Nat) : ∀ (as : List q_V) (i : Nat), q_lvl ad i (q_lv0 as) = lv_args i (as.map (q_cv ad))
  | [], i => rfl
  | .inr (.inl v) :: l, i => congrArg (fun z => (i, Value.long v) :: z) (q_lvl_args ad l (i + 2))
  | .inl v :: l, i => congrArg (fun z => (i, Value.int v) :: z) (q_lvl_args ad l (i + 1))
  | .inr (.inr none) :: l, i => congrArg (fun z => (i, Value.null) :: z) (q_lvl_args ad l (i + 1))
  | .inr (.inr (some k)) :: l, i => congrArg (fun z => (i, Value.ref (ad k)) :: z) (q_lvl_args ad l (i + 1))
theorem q_sl_len (ad : Nat → Nat) : ∀ (as : List q_V), (lg_sl (as.map (q_cv ad))).length = (q_lv0 as).length
  | [] => rfl
  | .inr (.inl v) :: l => by
    have h := q_sl_len ad l
    simp only [lg_sl, List.map_cons, List.flatMap_cons, q_cv, Value.category, if_true, List.length_append, List.length_cons, List.length_nil, q_lv0] at h ⊢
    omega
  | .inl v :: l => by
    have h := q_sl_len ad l
    simp [lg_sl, q_cv, Value.category, q_lv0] at h ⊢
    omega
  | .inr (.inr none) :: l => by
    have h := q_sl_len ad l
    simp [lg_sl, q_cv, Value.category, q_lv0] at h ⊢
    omega
  | .inr (.inr (some k)) :: l => by
    have h := q_sl_len ad l
    simp [lg_sl, q_cv, Value.category, q_lv0] at h ⊢
    omega
theorem q_met {y : MethodName} {b : ByteArray} {n : Nat} {ret : Option FieldType} {fr lo : Nat} {spec : List q_V → List q_E → (Option q_V → List q_E → Prop) → Prop} (hy : plainName y.cls = true)
    (body : ∀ (x : q_X) (as : List q_V) (Wd : List q_E) (K : Option q_V → List q_E → Prop), spec as Wd K → q_ok x b y.cls fr lo → q_fin x ret K → q_W x 0 (q_ent as n) [] Wd) : q_Ct y b n ret fr lo spec := by
  intro l D cA ad sz as Wd K hle hs
  refine Met.ofW (cc := b) (maxL := n) (ret := ret) hy rfl ?_
  intro p e s m args below meth c s₁ B hml hv
  obtain ⟨rfl, hsz, hP, hK, hD0⟩ := hv
  have hx := B.exec
  have hb := B.bytes
  have hr := B.returns
  have hts := atoms_spec (ws := q_ws y b n ret) B.pre
  have hown : s.vm.findClass y.cls = some m.cls := findClass_of_methodNamed B.named
  have hlocks := B.notSynchronized
  subst hsz
  have hD := hD0.self (sz := s.heap.size)
  rw [lg_entry_eq]
  have hl := lv_entry (as.map (q_cv ad)) (n := n) (by rw [q_sl_len]; exact hle)
  have hlen : (q_ent as n).length = n := by unfold q_ent; rw [List.length_append, List.length_replicate]; omega
  refine body (p, l, e, (headSpec (q_ws y b n ret) (q_rm fr lo)).room, s, m, (as.map (q_cv ad)).toArray, below, meth, c, va_A (q_cw cA ad 0 Wd) s.heap.size, s.heap, 0, 0, MQ below (q_Q D cA ad K (va_A (q_cw cA ad 0 Wd) s.heap.size)) (as.map (q_cv ad)).toArray s 0 0 (va_A (q_cw cA ad 0 Wd) s.heap.size), D, cA, ad) as Wd K hs ⟨hx, hb, hown, fun w hw => hts w (List.mem_cons_of_mem _ hw), hK, fun q h => Or.inr h, Nat.le_refl _, Nat.le_refl _, Nat.zero_le _, Nat.zero_le _⟩ ⟨hr, hlocks, rfl, rfl, rfl, rfl⟩ s.heap [] _ ?_ (by rw [hlen]; exact hml.symm) hP hD va_S.rf
  rw [hlen]
  refine q_has_sub hl (fun q hq => ?_)
  unfold q_ent at hq
  rw [q_lvl_app, q_lvl_none, List.append_nil, q_lvl_args] at hq
  exact hq
theorem q_iret {x : q_X} {cc : ByteArray} {own : String} {fr lo pc : Nat} {lv : List (Option q_V)} {Wd : List q_E} {v : Int32} {K : Option q_V → List q_E → Prop} (ok : q_ok x cc own fr lo) (fn : q_fin x (some .int) K) (hd : decode cc pc = .ok (.ireturn, 1)) (h : K (some (.inl v)) Wd) : q_W x pc lv [.inl v] Wd := by
  obtain ⟨p, l, e, R, s, m, args, below, meth, c, A, H0, cells, slots, Q, D, cA, ad⟩ := x
  obtain ⟨hx, hb, hown, hts, hK, hA, hfr, hlo, hce, hsl⟩ := ok
  obtain ⟨hr, hlk, rfl, rfl, rfl, rfl⟩ := fn
  intro H locs ls hl hn hP hD hS
  exact W.iret hx hb hr (fun t ht hW => ⟨⟨some (.inl v), Wd, rfl, h, by rw [ht]; exact hP, va_K.moved hW.alike hK, hD⟩, hS.F ht⟩) hS.2.2 hd hlk
theorem q_zret {x : q_X} {cc : ByteArray} {own : String} {fr lo pc : Nat} {lv : List (Option q_V)} {Wd : List q_E} {v : Int32} {K : Option q_V → List q_E → Prop} (ok : q_ok x cc own fr lo) (fn : q_fin x (some .boolean) K) (hd : decode cc pc = .ok (.ireturn, 1)) (hv : v = 0 ∨ v = 1) (h : K (some (.inl v)) Wd) : q_W x pc lv [.inl v] Wd := by
  obtain ⟨p, l, e, R, s, m, args, below, meth, c, A, H0, cells, slots, Q, D, cA, ad⟩ := x
  obtain ⟨hx, hb, hown, hts, hK, hA, hfr, hlo, hce, hsl⟩ := ok
  obtain ⟨hr, hlk, rfl, rfl, rfl, rfl⟩ := fn
  intro H locs ls hl hn hP hD hS
  exact W.zret hx hb hr (by rcases hv with rfl | rfl <;> decide +kernel) (fun t ht hW => ⟨⟨some (.inl v), Wd, rfl, h, by rw [ht]; exact hP, va_K.moved hW.alike hK, hD⟩, hS.F ht⟩) hS.2.2 hd hlk
theorem q_lret {x : q_X} {cc : ByteArray} {own : String} {fr lo pc : Nat} {lv : List (Option q_V)} {Wd : List q_E} {v : Int64} {K : Option q_V → List q_E → Prop} (ok : q_ok x cc own fr lo) (fn : q_fin x (some .long) K) (hd : decode cc pc = .ok (.lreturn, 1)) (h : K (some (.inr (.inl v))) Wd) : q_W x pc lv [.inr (.inl v)] Wd := by
  obtain ⟨p, l, e, R, s, m, args, below, meth, c, A, H0, cells, slots, Q, D, cA, ad⟩ := x
  obtain ⟨hx, hb, hown, hts, hK, hA, hfr, hlo, hce, hsl⟩ := ok
  obtain ⟨hr, hlk, rfl, rfl, rfl, rfl⟩ := fn
  intro H locs ls hl hn hP hD hS
  exact W.lret hx hb hr (fun t ht hW => ⟨⟨some (.inr (.inl v)), Wd, rfl, h, by rw [ht]; exact hP, va_K.moved hW.alike hK, hD⟩, hS.F ht⟩) hS.2.2 hd hlk
theorem q_vret {x : q_X} {cc : ByteArray} {own : String} {fr lo pc : Nat} {lv : List (Option q_V)} {Wd : List q_E} {K : Option q_V → List q_E → Prop} (ok : q_ok x cc own fr lo) (fn : q_fin x none K) (hd : decode cc pc = .ok (.return_, 1)) (h : K none Wd) : q_W x pc lv [] Wd := by
  obtain ⟨p, l, e, R, s, m, args, below, meth, c, A, H0, cells, slots, Q, D, cA, ad⟩ := x
  obtain ⟨hx, hb, hown, hts, hK, hA, hfr, hlo, hce, hsl⟩ := ok
  obtain ⟨hr, hlk, rfl, rfl, rfl, rfl⟩ := fn
  intro H locs ls hl hn hP hD hS
  exact W.vret hx hb hr (fun t ht hW => ⟨⟨none, Wd, rfl, h, by rw [ht]; exact hP, va_K.moved hW.alike hK, hD⟩, hS.F ht⟩) hS.2.2 hd hlk
theorem q_blind {as : List Value} {D : va_G} {cA : Nat → ClassId} {ad : Nat → Nat} {sz : Nat} {Wd : List q_E} : FrameBlind (va_Pc as (q_B D cA ad sz Wd)) := fun a U g mk q => by
  obtain ⟨q0, q1, qP, qK, qD⟩ := q
  exact ⟨q0, q1, qP, va_K.moved (u := U) (U := U.calling g mk a) (Vm.Alike.refl U.vm) qK, qD⟩
theorem q_gws {y : MethodName} {b : ByteArray} {n : Nat} {ret : Option FieldType} (h : Cond.code y b n ret ∈ wsL_law) : GoodIn wsL_law (q_ws y b n ret) := fun w hw => by
  rcases List.mem_cons.mp hw with rfl | hw
  · exact ⟨h, Or.inl rfl⟩
  · exact ⟨hw, (q_goodL w hw).2⟩
/-- behind a call: the run's end, seen in the abstract world -/
theorem q_back {p : Program} {l : Launch} {e : Env} {R : Room} {s : State} {m : MethodId} {args : Array Value} {below : List Frame} {meth : Method} {c : Code} {A : Nat → Prop} {H0 : Heap} {cells slots : Nat} {Q : State → Prop} {D : va_G} {cA : Nat → ClassId} {ad : Nat → Nat} {H : Heap} {locs : List Loc} {ls : Array Slot} {pc : Nat} {lv : List (Option q_V)} {st : List q_V} {Wd : List q_E} {st0 : List Value} {a : Array Value}
    (hA : ∀ q : Nat, H0.size ≤ q → A q) (hl : lv_has ls lv.length (q_lvl ad 0 lv)) (hn : lv.length = c.maxLocals) (hD : va_D A (q_cw cA ad 0 Wd)) (hS : va_S A H0 H locs)
    (run : va_Run p l e R s m args below meth c H locs cells slots 0 0 (F0 m pc ls st0) (st.map (q_cv ad)) (q_Q D cA ad (fun r Wd2 => q_W (p, l, e, R, s, m, args, below, meth, c, A, H0, cells, slots, Q, D, cA, ad) (pc + 3) lv (r.toList ++ st) Wd2) (va_A (q_cw cA ad 0 Wd) H.size) a) (va_A (q_cw cA ad 0 Wd) H.size)) :
    W p l e R s m args below meth c H locs cells slots Q (F0 m pc ls st0) := by
  have hF : ∀ q, va_A (q_cw cA ad 0 Wd) H.size q → A q := by
    intro q h
    rcases h with ⟨k, ee, h⟩ | h
    · exact hD.2 k (q, ee) h
    · exact hA q (Nat.le_trans hS.1 h)
  intro T hT X
  obtain ⟨v, st₀, t, T', L, h0, X', hL, e1, e2, ⟨⟨r, Wd2, hv, hk, hP2, hK2, hD2⟩, hz, hkp⟩, stp⟩ := run T hT X
  cases hv
  rw [h0] at hz hkp
  have hstk : (r.map (q_cv ad)).toList ++ st.map (q_cv ad) = (r.toList ++ st).map (q_cv ad) := by cases r <;> rfl
  obtain ⟨t2, a1, b1⟩ := hk T'.heap (locs ++ L) ls hl hn (by rw [e1]; exact hP2) (hD2.weaken (fun k q _ h => hF q.1 h)) ⟨Nat.le_trans hS.1 (by rw [e1]; exact hz), fun q h1 h2 => by rw [e1, hkp q (Nat.lt_of_lt_of_le h1 hS.1) (fun z => h2 (hF q z))]; exact hS.2.1 q h1 h2, fun q hq => by
      rcases List.mem_append.mp hq with h | h
      · exact hS.2.2 q h
      · exact hF _ (hL q h)⟩ T' rfl X'
  rw [← hstk] at a1
  exact ⟨t2, stp t2 a1, b1⟩
theorem q_callV {x : q_X} {cc : ByteArray} {own : String} {fr lo pc : Nat} {lv : List (Option q_V)} {Wd : List q_E} {y : MethodName} {b : ByteArray} {n : Nat} {ret : Option FieldType} {fr2 lo2 : Nat} {spec : List q_V → List q_E → (Option q_V → List q_E → Prop) → Prop} {ix ci N k : Nat} {T : u_T} {fs : List q_V} (as : List q_V) {st : List q_V} (C : q_Ct y b n ret fr2 lo2 spec)
    (hw : Cond.methodLink own ix y ∈ wsL_law ∧ Cond.instanceMethod y ∈ wsL_law ∧ Cond.selects y.cls y y ∈ wsL_law ∧ Cond.initialized y.cls ∈ wsL_law ∧ Cond.code y b n ret ∈ wsL_law) (hdc : y.cls ≠ "java/lang/invoke/MethodHandle" ∧ y.cls ≠ "java/lang/invoke/VarHandle" ∧ (parseMethodDescriptor y.desc).map (fun d => d.parameters.length) = some as.length)
    (hcl : vwCl[ci]? = some (y.cls, T, N)) (ok : q_ok x cc own fr lo) (he : Wd[k]? = some (.inr (ci, fs))) (hR : fr2 + 1 ≤ fr ∧ 8 + (n + 11) + lo2 ≤ lo) (hst : (st.map (fun v => if q_nol (some v) then 1 else 2)).sum ≤ 8) (hle : (q_lv0 (q_r k :: as)).length ≤ n) (hd : decode cc pc = .ok (.invokevirtual ix, 3))
    (hsp : spec (q_r k :: as) Wd (fun r Wd2 => q_W x (pc + 3) lv (r.toList ++ st) Wd2)) : q_W x pc lv (as.reverse ++ q_r k :: st) Wd := by
  obtain ⟨p, l, e, R, s, m, args, below, meth, c, A, H0, cells, slots, Q, D, cA, ad⟩ := x
  obtain ⟨hx, hb, hown, hts, hK, hA, hfr, hlo, hce, hsl⟩ := ok
  intro H locs ls hl hn hP hD hS
  have hM := C l D cA ad H.size (q_r k :: as) Wd _ hle hsp
  have hcat : ((st.map (q_cv ad)).map fun v => v.category).sum ≤ 8 := by
    rw [List.map_map]
    refine Nat.le_trans (Nat.le_of_eq ?_) hst
    congr 1
    refine List.map_congr_left (fun v _ => ?_)
    rcases v with u | u | (_ | u) <;> simp [q_cv, Value.category, q_nol]
  have hdl : (parseMethodDescriptor y.desc).map (fun d => d.parameters.length) = some (as.map (q_cv ad)).length := by rw [List.length_map]; exact hdc.2.2
  have cw : CallW R s args own y.cls ix y b n ret (q_ws y b n ret) (q_rm fr2 lo2) 0 0 (as.map (q_cv ad)).length :=
    ⟨callB_of _ hts (q_gws hw.2.2.2.2) rfl rfl rfl (hts _ hw.2.2.2.1) (hts _ hw.1) ⟨hdc.1, hdc.2.1, hdl⟩ ⟨Nat.le_trans hR.1 hfr, Nat.le_trans hR.2 hlo⟩, hts _ hw.2.1, hts _ hw.2.2.1⟩
  refine q_back hA hl hn hD hS (va_runV (As := as.map (q_cv ad)) (b := ad k) (nL := c.maxLocals) (Ts := wsL_law) ⟨hx, hb, rfl, hown, hts⟩ hM cw ⟨q_blind, va_recv hK hP hcl (q_cw_get0 he), fun U hU hW => ⟨rfl, by rw [hU], by rw [hU]; exact hP, va_K.moved hW.alike hK, hD.weaken (fun _ _ _ _ => trivial)⟩⟩ rfl rfl (hl.1.trans hn) (by simp [List.map_reverse, q_cv]) (lv_room hcat) hd ⟨hce, hsl⟩)
theorem q_callS {x : q_X} {cc : ByteArray} {own : String} {fr lo pc : Nat} {lv : List (Option q_V)} {Wd : List q_E} {y : MethodName} {b : ByteArray} {n : Nat} {ret : Option FieldType} {fr2 lo2 : Nat} {spec : List q_V → List q_E → (Option q_V → List q_E → Prop) → Prop} {ix : Nat} (as : List q_V) {st : List q_V} (C : q_Ct y b n ret fr2 lo2 spec)
    (hw : Cond.methodLink own ix y ∈ wsL_law ∧ Cond.static y ∈ wsL_law ∧ Cond.initialized y.cls ∈ wsL_law ∧ Cond.code y b n ret ∈ wsL_law) (hdc : y.cls ≠ "java/lang/invoke/MethodHandle" ∧ y.cls ≠ "java/lang/invoke/VarHandle" ∧ (parseMethodDescriptor y.desc).map (fun d => d.parameters.length) = some as.length)
    (ok : q_ok x cc own fr lo) (hR : fr2 + 1 ≤ fr ∧ 8 + (n + 11) + lo2 ≤ lo) (hst : (st.map (fun v => if q_nol (some v) then 1 else 2)).sum ≤ 8) (hle : (q_lv0 as).length ≤ n) (hd : decode cc pc = .ok (.invokestatic ix, 3))
    (hsp : spec as Wd (fun r Wd2 => q_W x (pc + 3) lv (r.toList ++ st) Wd2)) : q_W x pc lv (as.reverse ++ st) Wd := by
  obtain ⟨p, l, e, R, s, m, args, below, meth, c, A, H0, cells, slots, Q, D, cA, ad⟩ := x
  obtain ⟨hx, hb, hown, hts, hK, hA, hfr, hlo, hce, hsl⟩ := ok
  intro H locs ls hl hn hP hD hS
  have hM := C l D cA ad H.size as Wd _ hle hsp
  have hcat : ((st.map (q_cv ad)).map fun v => v.category).sum ≤ 8 := by
    rw [List.map_map]
    refine Nat.le_trans (Nat.le_of_eq ?_) hst
    congr 1
    refine List.map_congr_left (fun v _ => ?_)
    rcases v with u | u | (_ | u) <;> simp [q_cv, Value.category, q_nol]
  have hdl : (parseMethodDescriptor y.desc).map (fun d => d.parameters.length) = some (as.map (q_cv ad)).length := by rw [List.length_map]; exact hdc.2.2
  have cw : CallB R s args own ix y b n ret (q_ws y b n ret) (q_rm fr2 lo2) 0 0 (as.map (q_cv ad)).length ∧ (Cond.static y).before args s = true :=
    ⟨callB_of _ hts (q_gws hw.2.2.2) rfl rfl rfl (hts _ hw.2.2.1) (hts _ hw.1) ⟨hdc.1, hdc.2.1, hdl⟩ ⟨Nat.le_trans hR.1 hfr, Nat.le_trans hR.2 hlo⟩, hts _ hw.2.1⟩
  refine q_back hA hl hn hD hS (va_runS (As := as.map (q_cv ad)) (nL := c.maxLocals) (Ts := wsL_law) ⟨hx, hb, rfl, hown, hts⟩ hM cw ⟨q_blind, fun U hU hW => ⟨rfl, by rw [hU], by rw [hU]; exact hP, va_K.moved hW.alike hK, hD.weaken (fun _ _ _ _ => trivial)⟩⟩ rfl rfl (hl.1.trans hn) (by simp [List.map_reverse]) (lv_room hcat) hd ⟨hce, hsl⟩)
end
section
theorem dX0_init_0 : decode cX0_init 0 = .ok (.aload_n 0, 1) := by decide +kernel
theorem dX0_init_1 : decode cX0_init 1 = .ok (.invokespecial 1, 3) := by decide +kernel
theorem dX0_init_4 : decode cX0_init 4 = .ok (.aload_n 0, 1) := by decide +kernel
theorem dX0_init_5 : decode cX0_init 5 = .ok (.iload_n 1, 1) := by decide +kernel
theorem dX0_init_6 : decode cX0_init 6 = .ok (.invokestatic 7, 3) := by decide +kernel
theorem dX0_init_9 : decode cX0_init 9 = .ok (.putfield 13, 3) := by decide +kernel
theorem dX0_init_12 : decode cX0_init 12 = .ok (.aload_n 0, 1) := by decide +kernel
theorem dX0_init_13 : decode cX0_init 13 = .ok (.iload_n 2, 1) := by decide +kernel
theorem dX0_init_14 : decode cX0_init 14 = .ok (.invokestatic 7, 3) := by decide +kernel
theorem dX0_init_17 : decode cX0_init 17 = .ok (.putfield 17, 3) := by decide +kernel
theorem dX0_init_20 : decode cX0_init 20 = .ok (.aload_n 0, 1) := by decide +kernel
theorem dX0_init_21 : decode cX0_init 21 = .ok (.aload_n 0, 1) := by decide +kernel
theorem dX0_init_22 : decode cX0_init 22 = .ok (.getfield 13, 3) := by decide +kernel
theorem dX0_init_25 : decode cX0_init 25 = .ok (.aload_n 0, 1) := by decide +kernel
theorem dX0_init_26 : decode cX0_init 26 = .ok (.getfield 17, 3) := by decide +kernel
theorem dX0_init_29 : decode cX0_init 29 = .ok (.imul, 1) := by decide +kernel
theorem dX0_init_30 : decode cX0_init 30 = .ok (.putfield 20, 3) := by decide +kernel
theorem dX0_init_33 : decode cX0_init 33 = .ok (.aload_n 0, 1) := by decide +kernel
theorem dX0_init_34 : decode cX0_init 34 = .ok (.aload_n 0, 1) := by decide +kernel
theorem dX0_init_35 : decode cX0_init 35 = .ok (.getfield 20, 3) := by decide +kernel
theorem dX0_init_38 : decode cX0_init 38 = .ok (.newarray .int, 2) := by decide +kernel
theorem dX0_init_40 : decode cX0_init 40 = .ok (.putfield 23, 3) := by decide +kernel
theorem dX0_init_43 : decode cX0_init 43 = .ok (.aload_n 0, 1) := by decide +kernel
theorem dX0_init_44 : decode cX0_init 44 = .ok (.aload_n 0, 1) := by decide +kernel
theorem dX0_init_45 : decode cX0_init 45 = .ok (.getfield 20, 3) := by decide +kernel
theorem dX0_init_48 : decode cX0_init 48 = .ok (.newarray .boolean, 2) := by decide +kernel
theorem dX0_init_50 : decode cX0_init 50 = .ok (.putfield 27, 3) := by decide +kernel
theorem dX0_init_53 : decode cX0_init 53 = .ok (.aload_n 0, 1) := by decide +kernel
theorem dX0_init_54 : decode cX0_init 54 = .ok (.sipush 256, 3) := by decide +kernel
theorem dX0_init_57 : decode cX0_init 57 = .ok (.newarray .int, 2) := by decide +kernel
theorem dX0_init_59 : decode cX0_init 59 = .ok (.putfield 31, 3) := by decide +kernel
theorem dX0_init_62 : decode cX0_init 62 = .ok (.aload_n 0, 1) := by decide +kernel
theorem dX0_init_63 : decode cX0_init 63 = .ok (.aload_n 0, 1) := by decide +kernel
theorem dX0_init_64 : decode cX0_init 64 = .ok (.getfield 20, 3) := by decide +kernel
theorem dX0_init_67 : decode cX0_init 67 = .ok (.newarray .int, 2) := by decide +kernel
theorem dX0_init_69 : decode cX0_init 69 = .ok (.putfield 34, 3) := by decide +kernel
theorem dX0_init_72 : decode cX0_init 72 = .ok (.aload_n 0, 1) := by decide +kernel
theorem dX0_init_73 : decode cX0_init 73 = .ok (.aload_n 0, 1) := by decide +kernel
theorem dX0_init_74 : decode cX0_init 74 = .ok (.getfield 13, 3) := by decide +kernel
theorem dX0_init_77 : decode cX0_init 77 = .ok (.iconst 1, 1) := by decide +kernel
theorem dX0_init_78 : decode cX0_init 78 = .ok (.iadd, 1) := by decide +kernel
theorem dX0_init_79 : decode cX0_init 79 = .ok (.aload_n 0, 1) := by decide +kernel
theorem dX0_init_80 : decode cX0_init 80 = .ok (.getfield 17, 3) := by decide +kernel
theorem dX0_init_83 : decode cX0_init 83 = .ok (.iconst 1, 1) := by decide +kernel
theorem dX0_init_84 : decode cX0_init 84 = .ok (.iadd, 1) := by decide +kernel
theorem dX0_init_85 : decode cX0_init 85 = .ok (.imul, 1) := by decide +kernel
theorem dX0_init_86 : decode cX0_init 86 = .ok (.newarray .long, 2) := by decide +kernel
theorem dX0_init_88 : decode cX0_init 88 = .ok (.putfield 37, 3) := by decide +kernel
theorem dX0_init_91 : decode cX0_init 91 = .ok (.aload_n 0, 1) := by decide +kernel
theorem dX0_init_92 : decode cX0_init 92 = .ok (.aload_n 0, 1) := by decide +kernel
theorem dX0_init_93 : decode cX0_init 93 = .ok (.getfield 13, 3) := by decide +kernel
theorem dX0_init_96 : decode cX0_init 96 = .ok (.iconst 1, 1) := by decide +kernel
theorem dX0_init_97 : decode cX0_init 97 = .ok (.iadd, 1) := by decide +kernel
theorem dX0_init_98 : decode cX0_init 98 = .ok (.aload_n 0, 1) := by decide +kernel
theorem dX0_init_99 : decode cX0_init 99 = .ok (.getfield 17, 3) := by decide +kernel
theorem dX0_init_102 : decode cX0_init 102 = .ok (.iconst 1, 1) := by decide +kernel
theorem dX0_init_103 : decode cX0_init 103 = .ok (.iadd, 1) := by decide +kernel
theorem dX0_init_104 : decode cX0_init 104 = .ok (.imul, 1) := by decide +kernel
theorem dX0_init_105 : decode cX0_init 105 = .ok (.newarray .long, 2) := by decide +kernel
theorem dX0_init_107 : decode cX0_init 107 = .ok (.putfield 41, 3) := by decide +kernel
theorem dX0_init_110 : decode cX0_init 110 = .ok (.aload_n 0, 1) := by decide +kernel
theorem dX0_init_111 : decode cX0_init 111 = .ok (.aload_n 0, 1) := by decide +kernel
theorem dX0_init_112 : decode cX0_init 112 = .ok (.getfield 20, 3) := by decide +kernel
theorem dX0_init_115 : decode cX0_init 115 = .ok (.newarray .boolean, 2) := by decide +kernel
theorem dX0_init_117 : decode cX0_init 117 = .ok (.putfield 44, 3) := by decide +kernel
theorem dX0_init_120 : decode cX0_init 120 = .ok (.aload_n 0, 1) := by decide +kernel
theorem dX0_init_121 : decode cX0_init 121 = .ok (.aload_n 0, 1) := by decide +kernel
theorem dX0_init_122 : decode cX0_init 122 = .ok (.getfield 20, 3) := by decide +kernel
theorem dX0_init_125 : decode cX0_init 125 = .ok (.newarray .int, 2) := by decide +kernel
theorem dX0_init_127 : decode cX0_init 127 = .ok (.putfield 47, 3) := by decide +kernel
theorem dX0_init_130 : decode cX0_init 130 = .ok (.return_, 1) := by decide +kernel
theorem dX0_put_0 : decode cX0_put 0 = .ok (.aload_n 0, 1) := by decide +kernel
theorem dX0_put_1 : decode cX0_put 1 = .ok (.iload_n 1, 1) := by decide +kernel
theorem dX0_put_2 : decode cX0_put 2 = .ok (.iload_n 2, 1) := by decide +kernel
theorem dX0_put_3 : decode cX0_put 3 = .ok (.invokevirtual 50, 3) := by decide +kernel
theorem dX0_put_6 : decode cX0_put 6 = .ok (.ifCond .ne 13, 3) := by decide +kernel
theorem dX0_put_9 : decode cX0_put 9 = .ok (.new 54, 3) := by decide +kernel
theorem dX0_put_12 : decode cX0_put 12 = .ok (.dup, 1) := by decide +kernel
theorem dX0_put_13 : decode cX0_put 13 = .ok (.ldc 56, 2) := by decide +kernel
theorem dX0_put_15 : decode cX0_put 15 = .ok (.invokespecial 58, 3) := by decide +kernel
theorem dX0_put_18 : decode cX0_put 18 = .ok (.athrow, 1) := by decide +kernel
theorem dX0_put_19 : decode cX0_put 19 = .ok (.iload_n 3, 1) := by decide +kernel
theorem dX0_put_20 : decode cX0_put 20 = .ok (.ifCond .lt 10, 3) := by decide +kernel
theorem dX0_put_23 : decode cX0_put 23 = .ok (.iload_n 3, 1) := by decide +kernel
theorem dX0_put_24 : decode cX0_put 24 = .ok (.sipush 255, 3) := by decide +kernel
theorem dX0_put_27 : decode cX0_put 27 = .ok (.if_icmp .le 13, 3) := by decide +kernel
theorem dX0_put_30 : decode cX0_put 30 = .ok (.new 61, 3) := by decide +kernel
theorem dX0_put_33 : decode cX0_put 33 = .ok (.dup, 1) := by decide +kernel
theorem dX0_put_34 : decode cX0_put 34 = .ok (.ldc 63, 2) := by decide +kernel
theorem dX0_put_36 : decode cX0_put 36 = .ok (.invokespecial 65, 3) := by decide +kernel
theorem dX0_put_39 : decode cX0_put 39 = .ok (.athrow, 1) := by decide +kernel
theorem dX0_put_40 : decode cX0_put 40 = .ok (.aload_n 0, 1) := by decide +kernel
theorem dX0_put_41 : decode cX0_put 41 = .ok (.iload_n 1, 1) := by decide +kernel
theorem dX0_put_42 : decode cX0_put 42 = .ok (.iload_n 2, 1) := by decide +kernel
theorem dX0_put_43 : decode cX0_put 43 = .ok (.invokevirtual 66, 3) := by decide +kernel
theorem dX0_put_46 : decode cX0_put 46 = .ok (.istore 4, 2) := by decide +kernel
theorem dX0_put_48 : decode cX0_put 48 = .ok (.aload_n 0, 1) := by decide +kernel
theorem dX0_put_49 : decode cX0_put 49 = .ok (.getfield 23, 3) := by decide +kernel
theorem dX0_put_52 : decode cX0_put 52 = .ok (.iload 4, 2) := by decide +kernel
theorem dX0_put_54 : decode cX0_put 54 = .ok (.iaload, 1) := by decide +kernel
theorem dX0_put_55 : decode cX0_put 55 = .ok (.istore 5, 2) := by decide +kernel
theorem dX0_put_57 : decode cX0_put 57 = .ok (.aload_n 0, 1) := by decide +kernel
theorem dX0_put_58 : decode cX0_put 58 = .ok (.getfield 23, 3) := by decide +kernel
theorem dX0_put_61 : decode cX0_put 61 = .ok (.iload 4, 2) := by decide +kernel
theorem dX0_put_63 : decode cX0_put 63 = .ok (.iload_n 3, 1) := by decide +kernel
theorem dX0_put_64 : decode cX0_put 64 = .ok (.iastore, 1) := by decide +kernel
theorem dX0_put_65 : decode cX0_put 65 = .ok (.iload 5, 2) := by decide +kernel
theorem dX0_put_67 : decode cX0_put 67 = .ok (.ireturn, 1) := by decide +kernel
theorem dX0_paint_0 : decode cX0_paint 0 = .ok (.iconst 0, 1) := by decide +kernel
theorem dX0_paint_1 : decode cX0_paint 1 = .ok (.istore_n 3, 1) := by decide +kernel
theorem dX0_paint_2 : decode cX0_paint 2 = .ok (.iload_n 1, 1) := by decide +kernel
theorem dX0_paint_3 : decode cX0_paint 3 = .ok (.istore 4, 2) := by decide +kernel
theorem dX0_paint_5 : decode cX0_paint 5 = .ok (.iconst 0, 1) := by decide +kernel
theorem dX0_paint_6 : decode cX0_paint 6 = .ok (.istore 5, 2) := by decide +kernel
theorem dX0_paint_8 : decode cX0_paint 8 = .ok (.iload 5, 2) := by decide +kernel
theorem dX0_paint_10 : decode cX0_paint 10 = .ok (.aload_n 0, 1) := by decide +kernel
theorem dX0_paint_11 : decode cX0_paint 11 = .ok (.getfield 20, 3) := by decide +kernel
theorem dX0_paint_14 : decode cX0_paint 14 = .ok (.if_icmp .ge 49, 3) := by decide +kernel
theorem dX0_paint_17 : decode cX0_paint 17 = .ok (.iload 4, 2) := by decide +kernel
theorem dX0_paint_19 : decode cX0_paint 19 = .ok (.sipush 256, 3) := by decide +kernel
theorem dX0_paint_22 : decode cX0_paint 22 = .ok (.invokestatic 70, 3) := by decide +kernel
theorem dX0_paint_25 : decode cX0_paint 25 = .ok (.istore 6, 2) := by decide +kernel
theorem dX0_paint_27 : decode cX0_paint 27 = .ok (.aload_n 0, 1) := by decide +kernel
theorem dX0_paint_28 : decode cX0_paint 28 = .ok (.getfield 23, 3) := by decide +kernel
theorem dX0_paint_31 : decode cX0_paint 31 = .ok (.iload 5, 2) := by decide +kernel
theorem dX0_paint_33 : decode cX0_paint 33 = .ok (.iaload, 1) := by decide +kernel
theorem dX0_paint_34 : decode cX0_paint 34 = .ok (.iload 6, 2) := by decide +kernel
theorem dX0_paint_36 : decode cX0_paint 36 = .ok (.if_icmp .eq 6, 3) := by decide +kernel
theorem dX0_paint_39 : decode cX0_paint 39 = .ok (.iinc 3 1, 3) := by decide +kernel
theorem dX0_paint_42 : decode cX0_paint 42 = .ok (.aload_n 0, 1) := by decide +kernel
theorem dX0_paint_43 : decode cX0_paint 43 = .ok (.getfield 23, 3) := by decide +kernel
theorem dX0_paint_46 : decode cX0_paint 46 = .ok (.iload 5, 2) := by decide +kernel
theorem dX0_paint_48 : decode cX0_paint 48 = .ok (.iload 6, 2) := by decide +kernel
theorem dX0_paint_50 : decode cX0_paint 50 = .ok (.iastore, 1) := by decide +kernel
theorem dX0_paint_51 : decode cX0_paint 51 = .ok (.iload 4, 2) := by decide +kernel
theorem dX0_paint_53 : decode cX0_paint 53 = .ok (.iload_n 2, 1) := by decide +kernel
theorem dX0_paint_54 : decode cX0_paint 54 = .ok (.iadd, 1) := by decide +kernel
theorem dX0_paint_55 : decode cX0_paint 55 = .ok (.istore 4, 2) := by decide +kernel
theorem dX0_paint_57 : decode cX0_paint 57 = .ok (.iinc 5 1, 3) := by decide +kernel
theorem dX0_paint_60 : decode cX0_paint 60 = .ok (.goto (-52), 3) := by decide +kernel
theorem dX0_paint_63 : decode cX0_paint 63 = .ok (.iload_n 3, 1) := by decide +kernel
theorem dX0_paint_64 : decode cX0_paint 64 = .ok (.ireturn, 1) := by decide +kernel
theorem dX0_global_0 : decode cX0_global 0 = .ok (.aload_n 0, 1) := by decide +kernel
theorem dX0_global_1 : decode cX0_global 1 = .ok (.invokevirtual 75, 3) := by decide +kernel
theorem dX0_global_4 : decode cX0_global 4 = .ok (.istore_n 1, 1) := by decide +kernel
theorem dX0_global_5 : decode cX0_global 5 = .ok (.iconst 0, 1) := by decide +kernel
theorem dX0_global_6 : decode cX0_global 6 = .ok (.istore_n 2, 1) := by decide +kernel
theorem dX0_global_7 : decode cX0_global 7 = .ok (.iload_n 2, 1) := by decide +kernel
theorem dX0_global_8 : decode cX0_global 8 = .ok (.aload_n 0, 1) := by decide +kernel
theorem dX0_global_9 : decode cX0_global 9 = .ok (.getfield 20, 3) := by decide +kernel
theorem dX0_global_12 : decode cX0_global 12 = .ok (.if_icmp .ge 30, 3) := by decide +kernel
theorem dX0_global_15 : decode cX0_global 15 = .ok (.aload_n 0, 1) := by decide +kernel
theorem dX0_global_16 : decode cX0_global 16 = .ok (.getfield 27, 3) := by decide +kernel
theorem dX0_global_19 : decode cX0_global 19 = .ok (.iload_n 2, 1) := by decide +kernel
theorem dX0_global_20 : decode cX0_global 20 = .ok (.aload_n 0, 1) := by decide +kernel
theorem dX0_global_21 : decode cX0_global 21 = .ok (.getfield 23, 3) := by decide +kernel
theorem dX0_global_24 : decode cX0_global 24 = .ok (.iload_n 2, 1) := by decide +kernel
theorem dX0_global_25 : decode cX0_global 25 = .ok (.iaload, 1) := by decide +kernel
theorem dX0_global_26 : decode cX0_global 26 = .ok (.iload_n 1, 1) := by decide +kernel
theorem dX0_global_27 : decode cX0_global 27 = .ok (.if_icmp .gt 7, 3) := by decide +kernel
theorem dX0_global_30 : decode cX0_global 30 = .ok (.iconst 1, 1) := by decide +kernel
theorem dX0_global_31 : decode cX0_global 31 = .ok (.goto 4, 3) := by decide +kernel
theorem dX0_global_34 : decode cX0_global 34 = .ok (.iconst 0, 1) := by decide +kernel
theorem dX0_global_35 : decode cX0_global 35 = .ok (.bastore, 1) := by decide +kernel
theorem dX0_global_36 : decode cX0_global 36 = .ok (.iinc 2 1, 3) := by decide +kernel
theorem dX0_global_39 : decode cX0_global 39 = .ok (.goto (-32), 3) := by decide +kernel
theorem dX0_global_42 : decode cX0_global 42 = .ok (.iload_n 1, 1) := by decide +kernel
theorem dX0_global_43 : decode cX0_global 43 = .ok (.ireturn, 1) := by decide +kernel
theorem dX0_local_0 : decode cX0_local 0 = .ok (.iload_n 1, 1) := by decide +kernel
theorem dX0_local_1 : decode cX0_local 1 = .ok (.iconst 1, 1) := by decide +kernel
theorem dX0_local_2 : decode cX0_local 2 = .ok (.if_icmp .lt 15, 3) := by decide +kernel
theorem dX0_local_5 : decode cX0_local 5 = .ok (.iload_n 1, 1) := by decide +kernel
theorem dX0_local_6 : decode cX0_local 6 = .ok (.bipush 31, 2) := by decide +kernel
theorem dX0_local_8 : decode cX0_local 8 = .ok (.if_icmp .gt 9, 3) := by decide +kernel
theorem dX0_local_11 : decode cX0_local 11 = .ok (.iload_n 1, 1) := by decide +kernel
theorem dX0_local_12 : decode cX0_local 12 = .ok (.iconst 2, 1) := by decide +kernel
theorem dX0_local_13 : decode cX0_local 13 = .ok (.irem, 1) := by decide +kernel
theorem dX0_local_14 : decode cX0_local 14 = .ok (.ifCond .ne 13, 3) := by decide +kernel
theorem dX0_local_17 : decode cX0_local 17 = .ok (.new 61, 3) := by decide +kernel
theorem dX0_local_20 : decode cX0_local 20 = .ok (.dup, 1) := by decide +kernel
theorem dX0_local_21 : decode cX0_local 21 = .ok (.ldc 79, 2) := by decide +kernel
theorem dX0_local_23 : decode cX0_local 23 = .ok (.invokespecial 65, 3) := by decide +kernel
theorem dX0_local_26 : decode cX0_local 26 = .ok (.athrow, 1) := by decide +kernel
theorem dX0_local_27 : decode cX0_local 27 = .ok (.iload_n 2, 1) := by decide +kernel
theorem dX0_local_28 : decode cX0_local 28 = .ok (.ifCond .lt 9, 3) := by decide +kernel
theorem dX0_local_31 : decode cX0_local 31 = .ok (.iload_n 2, 1) := by decide +kernel
theorem dX0_local_32 : decode cX0_local 32 = .ok (.bipush 64, 2) := by decide +kernel
theorem dX0_local_34 : decode cX0_local 34 = .ok (.if_icmp .le 13, 3) := by decide +kernel
theorem dX0_local_37 : decode cX0_local 37 = .ok (.new 61, 3) := by decide +kernel
theorem dX0_local_40 : decode cX0_local 40 = .ok (.dup, 1) := by decide +kernel
theorem dX0_local_41 : decode cX0_local 41 = .ok (.ldc 81, 2) := by decide +kernel
theorem dX0_local_43 : decode cX0_local 43 = .ok (.invokespecial 65, 3) := by decide +kernel
theorem dX0_local_46 : decode cX0_local 46 = .ok (.athrow, 1) := by decide +kernel
theorem dX0_local_47 : decode cX0_local 47 = .ok (.aload_n 0, 1) := by decide +kernel
theorem dX0_local_48 : decode cX0_local 48 = .ok (.invokevirtual 83, 3) := by decide +kernel
theorem dX0_local_51 : decode cX0_local 51 = .ok (.iload_n 1, 1) := by decide +kernel
theorem dX0_local_52 : decode cX0_local 52 = .ok (.iconst 1, 1) := by decide +kernel
theorem dX0_local_53 : decode cX0_local 53 = .ok (.isub, 1) := by decide +kernel
theorem dX0_local_54 : decode cX0_local 54 = .ok (.iconst 2, 1) := by decide +kernel
theorem dX0_local_55 : decode cX0_local 55 = .ok (.idiv, 1) := by decide +kernel
theorem dX0_local_56 : decode cX0_local 56 = .ok (.istore_n 3, 1) := by decide +kernel
theorem dX0_local_57 : decode cX0_local 57 = .ok (.iconst 0, 1) := by decide +kernel
theorem dX0_local_58 : decode cX0_local 58 = .ok (.istore 4, 2) := by decide +kernel
theorem dX0_local_60 : decode cX0_local 60 = .ok (.iload 4, 2) := by decide +kernel
theorem dX0_local_62 : decode cX0_local 62 = .ok (.aload_n 0, 1) := by decide +kernel
theorem dX0_local_63 : decode cX0_local 63 = .ok (.getfield 17, 3) := by decide +kernel
theorem dX0_local_66 : decode cX0_local 66 = .ok (.if_icmp .ge 50, 3) := by decide +kernel
theorem dX0_local_69 : decode cX0_local 69 = .ok (.iconst 0, 1) := by decide +kernel
theorem dX0_local_70 : decode cX0_local 70 = .ok (.istore 5, 2) := by decide +kernel
theorem dX0_local_72 : decode cX0_local 72 = .ok (.iload 5, 2) := by decide +kernel
theorem dX0_local_74 : decode cX0_local 74 = .ok (.aload_n 0, 1) := by decide +kernel
theorem dX0_local_75 : decode cX0_local 75 = .ok (.getfield 13, 3) := by decide +kernel
theorem dX0_local_78 : decode cX0_local 78 = .ok (.if_icmp .ge 32, 3) := by decide +kernel
theorem dX0_local_81 : decode cX0_local 81 = .ok (.aload_n 0, 1) := by decide +kernel
theorem dX0_local_82 : decode cX0_local 82 = .ok (.getfield 27, 3) := by decide +kernel
theorem dX0_local_85 : decode cX0_local 85 = .ok (.aload_n 0, 1) := by decide +kernel
theorem dX0_local_86 : decode cX0_local 86 = .ok (.iload 5, 2) := by decide +kernel
theorem dX0_local_88 : decode cX0_local 88 = .ok (.iload 4, 2) := by decide +kernel
theorem dX0_local_90 : decode cX0_local 90 = .ok (.invokevirtual 66, 3) := by decide +kernel
theorem dX0_local_93 : decode cX0_local 93 = .ok (.aload_n 0, 1) := by decide +kernel
theorem dX0_local_94 : decode cX0_local 94 = .ok (.iload 5, 2) := by decide +kernel
theorem dX0_local_96 : decode cX0_local 96 = .ok (.iload 4, 2) := by decide +kernel
theorem dX0_local_98 : decode cX0_local 98 = .ok (.iload_n 3, 1) := by decide +kernel
theorem dX0_local_99 : decode cX0_local 99 = .ok (.iload_n 2, 1) := by decide +kernel
theorem dX0_local_100 : decode cX0_local 100 = .ok (.invokevirtual 86, 3) := by decide +kernel
theorem dX0_local_103 : decode cX0_local 103 = .ok (.bastore, 1) := by decide +kernel
theorem dX0_local_104 : decode cX0_local 104 = .ok (.iinc 5 1, 3) := by decide +kernel
theorem dX0_local_107 : decode cX0_local 107 = .ok (.goto (-35), 3) := by decide +kernel
theorem dX0_local_110 : decode cX0_local 110 = .ok (.iinc 4 1, 3) := by decide +kernel
theorem dX0_local_113 : decode cX0_local 113 = .ok (.goto (-53), 3) := by decide +kernel
theorem dX0_local_116 : decode cX0_local 116 = .ok (.aload_n 0, 1) := by decide +kernel
theorem dX0_local_117 : decode cX0_local 117 = .ok (.invokevirtual 90, 3) := by decide +kernel
theorem dX0_local_120 : decode cX0_local 120 = .ok (.ireturn, 1) := by decide +kernel
theorem dX0_spread_0 : decode cX0_spread 0 = .ok (.iload_n 1, 1) := by decide +kernel
theorem dX0_spread_1 : decode cX0_spread 1 = .ok (.ifCond .lt 8, 3) := by decide +kernel
theorem dX0_spread_4 : decode cX0_spread 4 = .ok (.iload_n 1, 1) := by decide +kernel
theorem dX0_spread_5 : decode cX0_spread 5 = .ok (.iconst 2, 1) := by decide +kernel
theorem dX0_spread_6 : decode cX0_spread 6 = .ok (.if_icmp .le 13, 3) := by decide +kernel
theorem dX0_spread_9 : decode cX0_spread 9 = .ok (.new 61, 3) := by decide +kernel
theorem dX0_spread_12 : decode cX0_spread 12 = .ok (.dup, 1) := by decide +kernel
theorem dX0_spread_13 : decode cX0_spread 13 = .ok (.ldc 93, 2) := by decide +kernel
theorem dX0_spread_15 : decode cX0_spread 15 = .ok (.invokespecial 65, 3) := by decide +kernel
theorem dX0_spread_18 : decode cX0_spread 18 = .ok (.athrow, 1) := by decide +kernel
theorem dX0_spread_19 : decode cX0_spread 19 = .ok (.aload_n 0, 1) := by decide +kernel
theorem dX0_spread_20 : decode cX0_spread 20 = .ok (.getfield 34, 3) := by decide +kernel
theorem dX0_spread_23 : decode cX0_spread 23 = .ok (.iconst 0, 1) := by decide +kernel
theorem dX0_spread_24 : decode cX0_spread 24 = .ok (.invokestatic 95, 3) := by decide +kernel
theorem dX0_spread_27 : decode cX0_spread 27 = .ok (.aload_n 0, 1) := by decide +kernel
theorem dX0_spread_28 : decode cX0_spread 28 = .ok (.lconst 0, 1) := by decide +kernel
theorem dX0_spread_29 : decode cX0_spread 29 = .ok (.putfield 101, 3) := by decide +kernel
theorem dX0_spread_32 : decode cX0_spread 32 = .ok (.iconst 0, 1) := by decide +kernel
theorem dX0_spread_33 : decode cX0_spread 33 = .ok (.istore_n 2, 1) := by decide +kernel
theorem dX0_spread_34 : decode cX0_spread 34 = .ok (.iload_n 2, 1) := by decide +kernel
theorem dX0_spread_35 : decode cX0_spread 35 = .ok (.aload_n 0, 1) := by decide +kernel
theorem dX0_spread_36 : decode cX0_spread 36 = .ok (.getfield 17, 3) := by decide +kernel
theorem dX0_spread_39 : decode cX0_spread 39 = .ok (.if_icmp .ge 15, 3) := by decide +kernel
theorem dX0_spread_42 : decode cX0_spread 42 = .ok (.aload_n 0, 1) := by decide +kernel
theorem dX0_spread_43 : decode cX0_spread 43 = .ok (.iload_n 2, 1) := by decide +kernel
theorem dX0_spread_44 : decode cX0_spread 44 = .ok (.iload_n 1, 1) := by decide +kernel
theorem dX0_spread_45 : decode cX0_spread 45 = .ok (.invokevirtual 105, 3) := by decide +kernel
theorem dX0_spread_48 : decode cX0_spread 48 = .ok (.iinc 2 1, 3) := by decide +kernel
theorem dX0_spread_51 : decode cX0_spread 51 = .ok (.goto (-17), 3) := by decide +kernel
theorem dX0_spread_54 : decode cX0_spread 54 = .ok (.aload_n 0, 1) := by decide +kernel
theorem dX0_spread_55 : decode cX0_spread 55 = .ok (.invokevirtual 90, 3) := by decide +kernel
theorem dX0_spread_58 : decode cX0_spread 58 = .ok (.ireturn, 1) := by decide +kernel
theorem dX0_rest_0 : decode cX0_rest 0 = .ok (.aload_n 0, 1) := by decide +kernel
theorem dX0_rest_1 : decode cX0_rest 1 = .ok (.getfield 101, 3) := by decide +kernel
theorem dX0_rest_4 : decode cX0_rest 4 = .ok (.lreturn, 1) := by decide +kernel
theorem dX0_ordered_0 : decode cX0_ordered 0 = .ok (.iload_n 1, 1) := by decide +kernel
theorem dX0_ordered_1 : decode cX0_ordered 1 = .ok (.invokestatic 109, 3) := by decide +kernel
theorem dX0_ordered_4 : decode cX0_ordered 4 = .ok (.ifCond .ne 13, 3) := by decide +kernel
theorem dX0_ordered_7 : decode cX0_ordered 7 = .ok (.new 61, 3) := by decide +kernel
theorem dX0_ordered_10 : decode cX0_ordered 10 = .ok (.dup, 1) := by decide +kernel
theorem dX0_ordered_11 : decode cX0_ordered 11 = .ok (.ldc 113, 2) := by decide +kernel
theorem dX0_ordered_13 : decode cX0_ordered 13 = .ok (.invokespecial 65, 3) := by decide +kernel
theorem dX0_ordered_16 : decode cX0_ordered 16 = .ok (.athrow, 1) := by decide +kernel
theorem dX0_ordered_17 : decode cX0_ordered 17 = .ok (.iconst 0, 1) := by decide +kernel
theorem dX0_ordered_18 : decode cX0_ordered 18 = .ok (.istore_n 2, 1) := by decide +kernel
theorem dX0_ordered_19 : decode cX0_ordered 19 = .ok (.iload_n 2, 1) := by decide +kernel
theorem dX0_ordered_20 : decode cX0_ordered 20 = .ok (.aload_n 0, 1) := by decide +kernel
theorem dX0_ordered_21 : decode cX0_ordered 21 = .ok (.getfield 17, 3) := by decide +kernel
theorem dX0_ordered_24 : decode cX0_ordered 24 = .ok (.if_icmp .ge 79, 3) := by decide +kernel
theorem dX0_ordered_27 : decode cX0_ordered 27 = .ok (.iconst 0, 1) := by decide +kernel
theorem dX0_ordered_28 : decode cX0_ordered 28 = .ok (.istore_n 3, 1) := by decide +kernel
theorem dX0_ordered_29 : decode cX0_ordered 29 = .ok (.iload_n 3, 1) := by decide +kernel
theorem dX0_ordered_30 : decode cX0_ordered 30 = .ok (.aload_n 0, 1) := by decide +kernel
theorem dX0_ordered_31 : decode cX0_ordered 31 = .ok (.getfield 13, 3) := by decide +kernel
theorem dX0_ordered_34 : decode cX0_ordered 34 = .ok (.if_icmp .ge 63, 3) := by decide +kernel
theorem dX0_ordered_37 : decode cX0_ordered 37 = .ok (.aload_n 0, 1) := by decide +kernel
theorem dX0_ordered_38 : decode cX0_ordered 38 = .ok (.iload_n 3, 1) := by decide +kernel
theorem dX0_ordered_39 : decode cX0_ordered 39 = .ok (.iload_n 2, 1) := by decide +kernel
theorem dX0_ordered_40 : decode cX0_ordered 40 = .ok (.invokevirtual 66, 3) := by decide +kernel
theorem dX0_ordered_43 : decode cX0_ordered 43 = .ok (.istore 4, 2) := by decide +kernel
theorem dX0_ordered_45 : decode cX0_ordered 45 = .ok (.sipush 256, 3) := by decide +kernel
theorem dX0_ordered_48 : decode cX0_ordered 48 = .ok (.iconst 2, 1) := by decide +kernel
theorem dX0_ordered_49 : decode cX0_ordered 49 = .ok (.iload_n 1, 1) := by decide +kernel
theorem dX0_ordered_50 : decode cX0_ordered 50 = .ok (.iload_n 3, 1) := by decide +kernel
theorem dX0_ordered_51 : decode cX0_ordered 51 = .ok (.iload_n 2, 1) := by decide +kernel
theorem dX0_ordered_52 : decode cX0_ordered 52 = .ok (.invokestatic 115, 3) := by decide +kernel
theorem dX0_ordered_55 : decode cX0_ordered 55 = .ok (.imul, 1) := by decide +kernel
theorem dX0_ordered_56 : decode cX0_ordered 56 = .ok (.iconst 1, 1) := by decide +kernel
theorem dX0_ordered_57 : decode cX0_ordered 57 = .ok (.iadd, 1) := by decide +kernel
theorem dX0_ordered_58 : decode cX0_ordered 58 = .ok (.imul, 1) := by decide +kernel
theorem dX0_ordered_59 : decode cX0_ordered 59 = .ok (.istore 5, 2) := by decide +kernel
theorem dX0_ordered_61 : decode cX0_ordered 61 = .ok (.aload_n 0, 1) := by decide +kernel
theorem dX0_ordered_62 : decode cX0_ordered 62 = .ok (.getfield 27, 3) := by decide +kernel
theorem dX0_ordered_65 : decode cX0_ordered 65 = .ok (.iload 4, 2) := by decide +kernel
theorem dX0_ordered_67 : decode cX0_ordered 67 = .ok (.iconst 2, 1) := by decide +kernel
theorem dX0_ordered_68 : decode cX0_ordered 68 = .ok (.iload_n 1, 1) := by decide +kernel
theorem dX0_ordered_69 : decode cX0_ordered 69 = .ok (.imul, 1) := by decide +kernel
theorem dX0_ordered_70 : decode cX0_ordered 70 = .ok (.iload_n 1, 1) := by decide +kernel
theorem dX0_ordered_71 : decode cX0_ordered 71 = .ok (.imul, 1) := by decide +kernel
theorem dX0_ordered_72 : decode cX0_ordered 72 = .ok (.aload_n 0, 1) := by decide +kernel
theorem dX0_ordered_73 : decode cX0_ordered 73 = .ok (.getfield 23, 3) := by decide +kernel
theorem dX0_ordered_76 : decode cX0_ordered 76 = .ok (.iload 4, 2) := by decide +kernel
theorem dX0_ordered_78 : decode cX0_ordered 78 = .ok (.iaload, 1) := by decide +kernel
theorem dX0_ordered_79 : decode cX0_ordered 79 = .ok (.imul, 1) := by decide +kernel
theorem dX0_ordered_80 : decode cX0_ordered 80 = .ok (.iload 5, 2) := by decide +kernel
theorem dX0_ordered_82 : decode cX0_ordered 82 = .ok (.if_icmp .ge 7, 3) := by decide +kernel
theorem dX0_ordered_85 : decode cX0_ordered 85 = .ok (.iconst 1, 1) := by decide +kernel
theorem dX0_ordered_86 : decode cX0_ordered 86 = .ok (.goto 4, 3) := by decide +kernel
theorem dX0_ordered_89 : decode cX0_ordered 89 = .ok (.iconst 0, 1) := by decide +kernel
theorem dX0_ordered_90 : decode cX0_ordered 90 = .ok (.bastore, 1) := by decide +kernel
theorem dX0_ordered_91 : decode cX0_ordered 91 = .ok (.iinc 3 1, 3) := by decide +kernel
theorem dX0_ordered_94 : decode cX0_ordered 94 = .ok (.goto (-65), 3) := by decide +kernel
theorem dX0_ordered_97 : decode cX0_ordered 97 = .ok (.iinc 2 1, 3) := by decide +kernel
theorem dX0_ordered_100 : decode cX0_ordered 100 = .ok (.goto (-81), 3) := by decide +kernel
theorem dX0_ordered_103 : decode cX0_ordered 103 = .ok (.aload_n 0, 1) := by decide +kernel
theorem dX0_ordered_104 : decode cX0_ordered 104 = .ok (.invokevirtual 90, 3) := by decide +kernel
theorem dX0_ordered_107 : decode cX0_ordered 107 = .ok (.ireturn, 1) := by decide +kernel
theorem dX0_join_0 : decode cX0_join 0 = .ok (.iload_n 1, 1) := by decide +kernel
theorem dX0_join_1 : decode cX0_join 1 = .ok (.iconst (-1), 1) := by decide +kernel
theorem dX0_join_2 : decode cX0_join 2 = .ok (.if_icmp .lt 15, 3) := by decide +kernel
theorem dX0_join_5 : decode cX0_join 5 = .ok (.iload_n 1, 1) := by decide +kernel
theorem dX0_join_6 : decode cX0_join 6 = .ok (.iload_n 2, 1) := by decide +kernel
theorem dX0_join_7 : decode cX0_join 7 = .ok (.if_icmp .gt 10, 3) := by decide +kernel
theorem dX0_join_10 : decode cX0_join 10 = .ok (.iload_n 2, 1) := by decide +kernel
theorem dX0_join_11 : decode cX0_join 11 = .ok (.sipush 255, 3) := by decide +kernel
theorem dX0_join_14 : decode cX0_join 14 = .ok (.if_icmp .le 13, 3) := by decide +kernel
theorem dX0_join_17 : decode cX0_join 17 = .ok (.new 61, 3) := by decide +kernel
theorem dX0_join_20 : decode cX0_join 20 = .ok (.dup, 1) := by decide +kernel
theorem dX0_join_21 : decode cX0_join 21 = .ok (.ldc 119, 2) := by decide +kernel
theorem dX0_join_23 : decode cX0_join 23 = .ok (.invokespecial 65, 3) := by decide +kernel
theorem dX0_join_26 : decode cX0_join 26 = .ok (.athrow, 1) := by decide +kernel
theorem dX0_join_27 : decode cX0_join 27 = .ok (.aload_n 0, 1) := by decide +kernel
theorem dX0_join_28 : decode cX0_join 28 = .ok (.iconst 0, 1) := by decide +kernel
theorem dX0_join_29 : decode cX0_join 29 = .ok (.putfield 121, 3) := by decide +kernel
theorem dX0_join_32 : decode cX0_join 32 = .ok (.iconst 0, 1) := by decide +kernel
theorem dX0_join_33 : decode cX0_join 33 = .ok (.istore_n 3, 1) := by decide +kernel
theorem dX0_join_34 : decode cX0_join 34 = .ok (.iload_n 3, 1) := by decide +kernel
theorem dX0_join_35 : decode cX0_join 35 = .ok (.aload_n 0, 1) := by decide +kernel
theorem dX0_join_36 : decode cX0_join 36 = .ok (.getfield 20, 3) := by decide +kernel
theorem dX0_join_39 : decode cX0_join 39 = .ok (.if_icmp .ge 44, 3) := by decide +kernel
theorem dX0_join_42 : decode cX0_join 42 = .ok (.aload_n 0, 1) := by decide +kernel
theorem dX0_join_43 : decode cX0_join 43 = .ok (.getfield 27, 3) := by decide +kernel
theorem dX0_join_46 : decode cX0_join 46 = .ok (.iload_n 3, 1) := by decide +kernel
theorem dX0_join_47 : decode cX0_join 47 = .ok (.aload_n 0, 1) := by decide +kernel
theorem dX0_join_48 : decode cX0_join 48 = .ok (.getfield 23, 3) := by decide +kernel
theorem dX0_join_51 : decode cX0_join 51 = .ok (.iload_n 3, 1) := by decide +kernel
theorem dX0_join_52 : decode cX0_join 52 = .ok (.iaload, 1) := by decide +kernel
theorem dX0_join_53 : decode cX0_join 53 = .ok (.iload_n 1, 1) := by decide +kernel
theorem dX0_join_54 : decode cX0_join 54 = .ok (.if_icmp .gt 7, 3) := by decide +kernel
theorem dX0_join_57 : decode cX0_join 57 = .ok (.iconst 1, 1) := by decide +kernel
theorem dX0_join_58 : decode cX0_join 58 = .ok (.goto 4, 3) := by decide +kernel
theorem dX0_join_61 : decode cX0_join 61 = .ok (.iconst 0, 1) := by decide +kernel
theorem dX0_join_62 : decode cX0_join 62 = .ok (.bastore, 1) := by decide +kernel
theorem dX0_join_63 : decode cX0_join 63 = .ok (.aload_n 0, 1) := by decide +kernel
theorem dX0_join_64 : decode cX0_join 64 = .ok (.getfield 27, 3) := by decide +kernel
theorem dX0_join_67 : decode cX0_join 67 = .ok (.iload_n 3, 1) := by decide +kernel
theorem dX0_join_68 : decode cX0_join 68 = .ok (.baload, 1) := by decide +kernel
theorem dX0_join_69 : decode cX0_join 69 = .ok (.ifCond .eq 8, 3) := by decide +kernel
theorem dX0_join_72 : decode cX0_join 72 = .ok (.aload_n 0, 1) := by decide +kernel
theorem dX0_join_73 : decode cX0_join 73 = .ok (.iload_n 3, 1) := by decide +kernel
theorem dX0_join_74 : decode cX0_join 74 = .ok (.invokevirtual 124, 3) := by decide +kernel
theorem dX0_join_77 : decode cX0_join 77 = .ok (.iinc 3 1, 3) := by decide +kernel
theorem dX0_join_80 : decode cX0_join 80 = .ok (.goto (-46), 3) := by decide +kernel
theorem dX0_join_83 : decode cX0_join 83 = .ok (.iconst 0, 1) := by decide +kernel
theorem dX0_join_84 : decode cX0_join 84 = .ok (.istore_n 3, 1) := by decide +kernel
theorem dX0_join_85 : decode cX0_join 85 = .ok (.iload_n 3, 1) := by decide +kernel
theorem dX0_join_86 : decode cX0_join 86 = .ok (.aload_n 0, 1) := by decide +kernel
theorem dX0_join_87 : decode cX0_join 87 = .ok (.getfield 20, 3) := by decide +kernel
theorem dX0_join_90 : decode cX0_join 90 = .ok (.if_icmp .ge 42, 3) := by decide +kernel
theorem dX0_join_93 : decode cX0_join 93 = .ok (.iload_n 3, 1) := by decide +kernel
theorem dX0_join_94 : decode cX0_join 94 = .ok (.aload_n 0, 1) := by decide +kernel
theorem dX0_join_95 : decode cX0_join 95 = .ok (.getfield 121, 3) := by decide +kernel
theorem dX0_join_98 : decode cX0_join 98 = .ok (.if_icmp .ge 34, 3) := by decide +kernel
theorem dX0_join_101 : decode cX0_join 101 = .ok (.aload_n 0, 1) := by decide +kernel
theorem dX0_join_102 : decode cX0_join 102 = .ok (.aload_n 0, 1) := by decide +kernel
theorem dX0_join_103 : decode cX0_join 103 = .ok (.aload_n 0, 1) := by decide +kernel
theorem dX0_join_104 : decode cX0_join 104 = .ok (.getfield 47, 3) := by decide +kernel
theorem dX0_join_107 : decode cX0_join 107 = .ok (.iload_n 3, 1) := by decide +kernel
theorem dX0_join_108 : decode cX0_join 108 = .ok (.iaload, 1) := by decide +kernel
theorem dX0_join_109 : decode cX0_join 109 = .ok (.invokevirtual 128, 3) := by decide +kernel
theorem dX0_join_112 : decode cX0_join 112 = .ok (.aload_n 0, 1) := by decide +kernel
theorem dX0_join_113 : decode cX0_join 113 = .ok (.aload_n 0, 1) := by decide +kernel
theorem dX0_join_114 : decode cX0_join 114 = .ok (.getfield 47, 3) := by decide +kernel
theorem dX0_join_117 : decode cX0_join 117 = .ok (.iload_n 3, 1) := by decide +kernel
theorem dX0_join_118 : decode cX0_join 118 = .ok (.iaload, 1) := by decide +kernel
theorem dX0_join_119 : decode cX0_join 119 = .ok (.invokevirtual 131, 3) := by decide +kernel
theorem dX0_join_122 : decode cX0_join 122 = .ok (.iload_n 2, 1) := by decide +kernel
theorem dX0_join_123 : decode cX0_join 123 = .ok (.invokevirtual 134, 3) := by decide +kernel
theorem dX0_join_126 : decode cX0_join 126 = .ok (.iinc 3 1, 3) := by decide +kernel
theorem dX0_join_129 : decode cX0_join 129 = .ok (.goto (-44), 3) := by decide +kernel
theorem dX0_join_132 : decode cX0_join 132 = .ok (.aload_n 0, 1) := by decide +kernel
theorem dX0_join_133 : decode cX0_join 133 = .ok (.invokevirtual 90, 3) := by decide +kernel
theorem dX0_join_136 : decode cX0_join 136 = .ok (.ireturn, 1) := by decide +kernel
theorem dX0_clean_0 : decode cX0_clean 0 = .ok (.iload_n 1, 1) := by decide +kernel
theorem dX0_clean_1 : decode cX0_clean 1 = .ok (.ifCond .lt 10, 3) := by decide +kernel
theorem dX0_clean_4 : decode cX0_clean 4 = .ok (.iload_n 1, 1) := by decide +kernel
theorem dX0_clean_5 : decode cX0_clean 5 = .ok (.sipush 256, 3) := by decide +kernel
theorem dX0_clean_8 : decode cX0_clean 8 = .ok (.if_icmp .le 13, 3) := by decide +kernel
theorem dX0_clean_11 : decode cX0_clean 11 = .ok (.new 61, 3) := by decide +kernel
theorem dX0_clean_14 : decode cX0_clean 14 = .ok (.dup, 1) := by decide +kernel
theorem dX0_clean_15 : decode cX0_clean 15 = .ok (.ldc 138, 2) := by decide +kernel
theorem dX0_clean_17 : decode cX0_clean 17 = .ok (.invokespecial 65, 3) := by decide +kernel
theorem dX0_clean_20 : decode cX0_clean 20 = .ok (.athrow, 1) := by decide +kernel
theorem dX0_clean_21 : decode cX0_clean 21 = .ok (.aload_n 0, 1) := by decide +kernel
theorem dX0_clean_22 : decode cX0_clean 22 = .ok (.iconst 1, 1) := by decide +kernel
theorem dX0_clean_23 : decode cX0_clean 23 = .ok (.iload_n 1, 1) := by decide +kernel
theorem dX0_clean_24 : decode cX0_clean 24 = .ok (.invokevirtual 140, 3) := by decide +kernel
theorem dX0_clean_27 : decode cX0_clean 27 = .ok (.istore_n 2, 1) := by decide +kernel
theorem dX0_clean_28 : decode cX0_clean 28 = .ok (.aload_n 0, 1) := by decide +kernel
theorem dX0_clean_29 : decode cX0_clean 29 = .ok (.iconst 0, 1) := by decide +kernel
theorem dX0_clean_30 : decode cX0_clean 30 = .ok (.iload_n 1, 1) := by decide +kernel
theorem dX0_clean_31 : decode cX0_clean 31 = .ok (.invokevirtual 140, 3) := by decide +kernel
theorem dX0_clean_34 : decode cX0_clean 34 = .ok (.istore_n 3, 1) := by decide +kernel
theorem dX0_clean_35 : decode cX0_clean 35 = .ok (.iload_n 2, 1) := by decide +kernel
theorem dX0_clean_36 : decode cX0_clean 36 = .ok (.iload_n 3, 1) := by decide +kernel
theorem dX0_clean_37 : decode cX0_clean 37 = .ok (.iadd, 1) := by decide +kernel
theorem dX0_clean_38 : decode cX0_clean 38 = .ok (.ireturn, 1) := by decide +kernel
theorem dX0_edges_0 : decode cX0_edges 0 = .ok (.iconst 0, 1) := by decide +kernel
theorem dX0_edges_1 : decode cX0_edges 1 = .ok (.istore_n 1, 1) := by decide +kernel
theorem dX0_edges_2 : decode cX0_edges 2 = .ok (.iload_n 1, 1) := by decide +kernel
theorem dX0_edges_3 : decode cX0_edges 3 = .ok (.aload_n 0, 1) := by decide +kernel
theorem dX0_edges_4 : decode cX0_edges 4 = .ok (.getfield 17, 3) := by decide +kernel
theorem dX0_edges_7 : decode cX0_edges 7 = .ok (.if_icmp .ge 42, 3) := by decide +kernel
theorem dX0_edges_10 : decode cX0_edges 10 = .ok (.iconst 0, 1) := by decide +kernel
theorem dX0_edges_11 : decode cX0_edges 11 = .ok (.istore_n 2, 1) := by decide +kernel
theorem dX0_edges_12 : decode cX0_edges 12 = .ok (.iload_n 2, 1) := by decide +kernel
theorem dX0_edges_13 : decode cX0_edges 13 = .ok (.aload_n 0, 1) := by decide +kernel
theorem dX0_edges_14 : decode cX0_edges 14 = .ok (.getfield 13, 3) := by decide +kernel
theorem dX0_edges_17 : decode cX0_edges 17 = .ok (.if_icmp .ge 26, 3) := by decide +kernel
theorem dX0_edges_20 : decode cX0_edges 20 = .ok (.aload_n 0, 1) := by decide +kernel
theorem dX0_edges_21 : decode cX0_edges 21 = .ok (.getfield 44, 3) := by decide +kernel
theorem dX0_edges_24 : decode cX0_edges 24 = .ok (.aload_n 0, 1) := by decide +kernel
theorem dX0_edges_25 : decode cX0_edges 25 = .ok (.iload_n 2, 1) := by decide +kernel
theorem dX0_edges_26 : decode cX0_edges 26 = .ok (.iload_n 1, 1) := by decide +kernel
theorem dX0_edges_27 : decode cX0_edges 27 = .ok (.invokevirtual 66, 3) := by decide +kernel
theorem dX0_edges_30 : decode cX0_edges 30 = .ok (.aload_n 0, 1) := by decide +kernel
theorem dX0_edges_31 : decode cX0_edges 31 = .ok (.iload_n 2, 1) := by decide +kernel
theorem dX0_edges_32 : decode cX0_edges 32 = .ok (.iload_n 1, 1) := by decide +kernel
theorem dX0_edges_33 : decode cX0_edges 33 = .ok (.invokevirtual 144, 3) := by decide +kernel
theorem dX0_edges_36 : decode cX0_edges 36 = .ok (.bastore, 1) := by decide +kernel
theorem dX0_edges_37 : decode cX0_edges 37 = .ok (.iinc 2 1, 3) := by decide +kernel
theorem dX0_edges_40 : decode cX0_edges 40 = .ok (.goto (-28), 3) := by decide +kernel
theorem dX0_edges_43 : decode cX0_edges 43 = .ok (.iinc 1 1, 3) := by decide +kernel
theorem dX0_edges_46 : decode cX0_edges 46 = .ok (.goto (-44), 3) := by decide +kernel
theorem dX0_edges_49 : decode cX0_edges 49 = .ok (.iconst 0, 1) := by decide +kernel
theorem dX0_edges_50 : decode cX0_edges 50 = .ok (.istore_n 1, 1) := by decide +kernel
theorem dX0_edges_51 : decode cX0_edges 51 = .ok (.iload_n 1, 1) := by decide +kernel
theorem dX0_edges_52 : decode cX0_edges 52 = .ok (.aload_n 0, 1) := by decide +kernel
theorem dX0_edges_53 : decode cX0_edges 53 = .ok (.getfield 20, 3) := by decide +kernel
theorem dX0_edges_56 : decode cX0_edges 56 = .ok (.if_icmp .ge 21, 3) := by decide +kernel
theorem dX0_edges_59 : decode cX0_edges 59 = .ok (.aload_n 0, 1) := by decide +kernel
theorem dX0_edges_60 : decode cX0_edges 60 = .ok (.getfield 27, 3) := by decide +kernel
theorem dX0_edges_63 : decode cX0_edges 63 = .ok (.iload_n 1, 1) := by decide +kernel
theorem dX0_edges_64 : decode cX0_edges 64 = .ok (.aload_n 0, 1) := by decide +kernel
theorem dX0_edges_65 : decode cX0_edges 65 = .ok (.getfield 44, 3) := by decide +kernel
theorem dX0_edges_68 : decode cX0_edges 68 = .ok (.iload_n 1, 1) := by decide +kernel
theorem dX0_edges_69 : decode cX0_edges 69 = .ok (.baload, 1) := by decide +kernel
theorem dX0_edges_70 : decode cX0_edges 70 = .ok (.bastore, 1) := by decide +kernel
theorem dX0_edges_71 : decode cX0_edges 71 = .ok (.iinc 1 1, 3) := by decide +kernel
theorem dX0_edges_74 : decode cX0_edges 74 = .ok (.goto (-23), 3) := by decide +kernel
theorem dX0_edges_77 : decode cX0_edges 77 = .ok (.aload_n 0, 1) := by decide +kernel
theorem dX0_edges_78 : decode cX0_edges 78 = .ok (.invokevirtual 90, 3) := by decide +kernel
theorem dX0_edges_81 : decode cX0_edges 81 = .ok (.ireturn, 1) := by decide +kernel
theorem dX0_invert_0 : decode cX0_invert 0 = .ok (.iconst 0, 1) := by decide +kernel
theorem dX0_invert_1 : decode cX0_invert 1 = .ok (.istore_n 1, 1) := by decide +kernel
theorem dX0_invert_2 : decode cX0_invert 2 = .ok (.iload_n 1, 1) := by decide +kernel
theorem dX0_invert_3 : decode cX0_invert 3 = .ok (.aload_n 0, 1) := by decide +kernel
theorem dX0_invert_4 : decode cX0_invert 4 = .ok (.getfield 20, 3) := by decide +kernel
theorem dX0_invert_7 : decode cX0_invert 7 = .ok (.if_icmp .ge 29, 3) := by decide +kernel
theorem dX0_invert_10 : decode cX0_invert 10 = .ok (.aload_n 0, 1) := by decide +kernel
theorem dX0_invert_11 : decode cX0_invert 11 = .ok (.getfield 27, 3) := by decide +kernel
theorem dX0_invert_14 : decode cX0_invert 14 = .ok (.iload_n 1, 1) := by decide +kernel
theorem dX0_invert_15 : decode cX0_invert 15 = .ok (.aload_n 0, 1) := by decide +kernel
theorem dX0_invert_16 : decode cX0_invert 16 = .ok (.getfield 27, 3) := by decide +kernel
theorem dX0_invert_19 : decode cX0_invert 19 = .ok (.iload_n 1, 1) := by decide +kernel
theorem dX0_invert_20 : decode cX0_invert 20 = .ok (.baload, 1) := by decide +kernel
theorem dX0_invert_21 : decode cX0_invert 21 = .ok (.ifCond .ne 7, 3) := by decide +kernel
theorem dX0_invert_24 : decode cX0_invert 24 = .ok (.iconst 1, 1) := by decide +kernel
theorem dX0_invert_25 : decode cX0_invert 25 = .ok (.goto 4, 3) := by decide +kernel
theorem dX0_invert_28 : decode cX0_invert 28 = .ok (.iconst 0, 1) := by decide +kernel
theorem dX0_invert_29 : decode cX0_invert 29 = .ok (.bastore, 1) := by decide +kernel
theorem dX0_invert_30 : decode cX0_invert 30 = .ok (.iinc 1 1, 3) := by decide +kernel
theorem dX0_invert_33 : decode cX0_invert 33 = .ok (.goto (-31), 3) := by decide +kernel
theorem dX0_invert_36 : decode cX0_invert 36 = .ok (.aload_n 0, 1) := by decide +kernel
theorem dX0_invert_37 : decode cX0_invert 37 = .ok (.invokevirtual 90, 3) := by decide +kernel
theorem dX0_invert_40 : decode cX0_invert 40 = .ok (.ireturn, 1) := by decide +kernel
theorem dX0_at_0 : decode cX0_at 0 = .ok (.aload_n 0, 1) := by decide +kernel
theorem dX0_at_1 : decode cX0_at 1 = .ok (.iload_n 1, 1) := by decide +kernel
theorem dX0_at_2 : decode cX0_at 2 = .ok (.iload_n 2, 1) := by decide +kernel
theorem dX0_at_3 : decode cX0_at 3 = .ok (.invokevirtual 50, 3) := by decide +kernel
theorem dX0_at_6 : decode cX0_at 6 = .ok (.ifCond .ne 13, 3) := by decide +kernel
theorem dX0_at_9 : decode cX0_at 9 = .ok (.new 54, 3) := by decide +kernel
theorem dX0_at_12 : decode cX0_at 12 = .ok (.dup, 1) := by decide +kernel
theorem dX0_at_13 : decode cX0_at 13 = .ok (.ldc 56, 2) := by decide +kernel
theorem dX0_at_15 : decode cX0_at 15 = .ok (.invokespecial 58, 3) := by decide +kernel
theorem dX0_at_18 : decode cX0_at 18 = .ok (.athrow, 1) := by decide +kernel
theorem dX0_at_19 : decode cX0_at 19 = .ok (.aload_n 0, 1) := by decide +kernel
theorem dX0_at_20 : decode cX0_at 20 = .ok (.getfield 27, 3) := by decide +kernel
theorem dX0_at_23 : decode cX0_at 23 = .ok (.aload_n 0, 1) := by decide +kernel
theorem dX0_at_24 : decode cX0_at 24 = .ok (.iload_n 1, 1) := by decide +kernel
theorem dX0_at_25 : decode cX0_at 25 = .ok (.iload_n 2, 1) := by decide +kernel
theorem dX0_at_26 : decode cX0_at 26 = .ok (.invokevirtual 66, 3) := by decide +kernel
theorem dX0_at_29 : decode cX0_at 29 = .ok (.baload, 1) := by decide +kernel
theorem dX0_at_30 : decode cX0_at 30 = .ok (.ireturn, 1) := by decide +kernel
theorem dX0_sum_0 : decode cX0_sum 0 = .ok (.iload_n 1, 1) := by decide +kernel
theorem dX0_sum_1 : decode cX0_sum 1 = .ok (.iload_n 3, 1) := by decide +kernel
theorem dX0_sum_2 : decode cX0_sum 2 = .ok (.aload_n 0, 1) := by decide +kernel
theorem dX0_sum_3 : decode cX0_sum 3 = .ok (.getfield 13, 3) := by decide +kernel
theorem dX0_sum_6 : decode cX0_sum 6 = .ok (.invokestatic 147, 3) := by decide +kernel
theorem dX0_sum_9 : decode cX0_sum 9 = .ok (.ifCond .eq 16, 3) := by decide +kernel
theorem dX0_sum_12 : decode cX0_sum 12 = .ok (.iload_n 2, 1) := by decide +kernel
theorem dX0_sum_13 : decode cX0_sum 13 = .ok (.iload 4, 2) := by decide +kernel
theorem dX0_sum_15 : decode cX0_sum 15 = .ok (.aload_n 0, 1) := by decide +kernel
theorem dX0_sum_16 : decode cX0_sum 16 = .ok (.getfield 17, 3) := by decide +kernel
theorem dX0_sum_19 : decode cX0_sum 19 = .ok (.invokestatic 147, 3) := by decide +kernel
theorem dX0_sum_22 : decode cX0_sum 22 = .ok (.ifCond .ne 13, 3) := by decide +kernel
theorem dX0_sum_25 : decode cX0_sum 25 = .ok (.new 61, 3) := by decide +kernel
theorem dX0_sum_28 : decode cX0_sum 28 = .ok (.dup, 1) := by decide +kernel
theorem dX0_sum_29 : decode cX0_sum 29 = .ok (.ldc 151, 2) := by decide +kernel
theorem dX0_sum_31 : decode cX0_sum 31 = .ok (.invokespecial 65, 3) := by decide +kernel
theorem dX0_sum_34 : decode cX0_sum 34 = .ok (.athrow, 1) := by decide +kernel
theorem dX0_sum_35 : decode cX0_sum 35 = .ok (.aload_n 0, 1) := by decide +kernel
theorem dX0_sum_36 : decode cX0_sum 36 = .ok (.invokevirtual 83, 3) := by decide +kernel
theorem dX0_sum_39 : decode cX0_sum 39 = .ok (.aload_n 0, 1) := by decide +kernel
theorem dX0_sum_40 : decode cX0_sum 40 = .ok (.iload 5, 2) := by decide +kernel
theorem dX0_sum_42 : decode cX0_sum 42 = .ok (.ifCond .eq 10, 3) := by decide +kernel
theorem dX0_sum_45 : decode cX0_sum 45 = .ok (.aload_n 0, 1) := by decide +kernel
theorem dX0_sum_46 : decode cX0_sum 46 = .ok (.getfield 41, 3) := by decide +kernel
theorem dX0_sum_49 : decode cX0_sum 49 = .ok (.goto 7, 3) := by decide +kernel
theorem dX0_sum_52 : decode cX0_sum 52 = .ok (.aload_n 0, 1) := by decide +kernel
theorem dX0_sum_53 : decode cX0_sum 53 = .ok (.getfield 37, 3) := by decide +kernel
theorem dX0_sum_56 : decode cX0_sum 56 = .ok (.iload_n 1, 1) := by decide +kernel
theorem dX0_sum_57 : decode cX0_sum 57 = .ok (.iload_n 2, 1) := by decide +kernel
theorem dX0_sum_58 : decode cX0_sum 58 = .ok (.iload_n 1, 1) := by decide +kernel
theorem dX0_sum_59 : decode cX0_sum 59 = .ok (.iload_n 3, 1) := by decide +kernel
theorem dX0_sum_60 : decode cX0_sum 60 = .ok (.iadd, 1) := by decide +kernel
theorem dX0_sum_61 : decode cX0_sum 61 = .ok (.iload_n 2, 1) := by decide +kernel
theorem dX0_sum_62 : decode cX0_sum 62 = .ok (.iload 4, 2) := by decide +kernel
theorem dX0_sum_64 : decode cX0_sum 64 = .ok (.iadd, 1) := by decide +kernel
theorem dX0_sum_65 : decode cX0_sum 65 = .ok (.invokevirtual 153, 3) := by decide +kernel
theorem dX0_sum_68 : decode cX0_sum 68 = .ok (.lreturn, 1) := by decide +kernel
theorem dX0_cell_0 : decode cX0_cell 0 = .ok (.iload_n 1, 1) := by decide +kernel
theorem dX0_cell_1 : decode cX0_cell 1 = .ok (.invokestatic 109, 3) := by decide +kernel
theorem dX0_cell_4 : decode cX0_cell 4 = .ok (.ifCond .ne 13, 3) := by decide +kernel
theorem dX0_cell_7 : decode cX0_cell 7 = .ok (.new 61, 3) := by decide +kernel
theorem dX0_cell_10 : decode cX0_cell 10 = .ok (.dup, 1) := by decide +kernel
theorem dX0_cell_11 : decode cX0_cell 11 = .ok (.ldc 113, 2) := by decide +kernel
theorem dX0_cell_13 : decode cX0_cell 13 = .ok (.invokespecial 65, 3) := by decide +kernel
theorem dX0_cell_16 : decode cX0_cell 16 = .ok (.athrow, 1) := by decide +kernel
theorem dX0_cell_17 : decode cX0_cell 17 = .ok (.iload_n 2, 1) := by decide +kernel
theorem dX0_cell_18 : decode cX0_cell 18 = .ok (.ifCond .lt 7, 3) := by decide +kernel
theorem dX0_cell_21 : decode cX0_cell 21 = .ok (.iload_n 3, 1) := by decide +kernel
theorem dX0_cell_22 : decode cX0_cell 22 = .ok (.ifCond .ge 13, 3) := by decide +kernel
theorem dX0_cell_25 : decode cX0_cell 25 = .ok (.new 61, 3) := by decide +kernel
theorem dX0_cell_28 : decode cX0_cell 28 = .ok (.dup, 1) := by decide +kernel
theorem dX0_cell_29 : decode cX0_cell 29 = .ok (.ldc 157, 2) := by decide +kernel
theorem dX0_cell_31 : decode cX0_cell 31 = .ok (.invokespecial 65, 3) := by decide +kernel
theorem dX0_cell_34 : decode cX0_cell 34 = .ok (.athrow, 1) := by decide +kernel
theorem dX0_cell_35 : decode cX0_cell 35 = .ok (.iload_n 1, 1) := by decide +kernel
theorem dX0_cell_36 : decode cX0_cell 36 = .ok (.iload_n 2, 1) := by decide +kernel
theorem dX0_cell_37 : decode cX0_cell 37 = .ok (.iload_n 3, 1) := by decide +kernel
theorem dX0_cell_38 : decode cX0_cell 38 = .ok (.invokestatic 115, 3) := by decide +kernel
theorem dX0_cell_41 : decode cX0_cell 41 = .ok (.ireturn, 1) := by decide +kernel
theorem dX0_told_0 : decode cX0_told 0 = .ok (.iload_n 1, 1) := by decide +kernel
theorem dX0_told_1 : decode cX0_told 1 = .ok (.tableswitch 60 0 4 #[35, 40, 45, 50, 55], 35) := by decide +kernel
theorem dX0_told_36 : decode cX0_told 36 = .ok (.aload_n 0, 1) := by decide +kernel
theorem dX0_told_37 : decode cX0_told 37 = .ok (.getfield 13, 3) := by decide +kernel
theorem dX0_told_40 : decode cX0_told 40 = .ok (.ireturn, 1) := by decide +kernel
theorem dX0_told_41 : decode cX0_told 41 = .ok (.aload_n 0, 1) := by decide +kernel
theorem dX0_told_42 : decode cX0_told 42 = .ok (.getfield 17, 3) := by decide +kernel
theorem dX0_told_45 : decode cX0_told 45 = .ok (.ireturn, 1) := by decide +kernel
theorem dX0_told_46 : decode cX0_told 46 = .ok (.aload_n 0, 1) := by decide +kernel
theorem dX0_told_47 : decode cX0_told 47 = .ok (.invokevirtual 90, 3) := by decide +kernel
theorem dX0_told_50 : decode cX0_told 50 = .ok (.ireturn, 1) := by decide +kernel
theorem dX0_told_51 : decode cX0_told 51 = .ok (.aload_n 0, 1) := by decide +kernel
theorem dX0_told_52 : decode cX0_told 52 = .ok (.invokevirtual 159, 3) := by decide +kernel
theorem dX0_told_55 : decode cX0_told 55 = .ok (.ireturn, 1) := by decide +kernel
theorem dX0_told_56 : decode cX0_told 56 = .ok (.aload_n 0, 1) := by decide +kernel
theorem dX0_told_57 : decode cX0_told 57 = .ok (.invokevirtual 162, 3) := by decide +kernel
theorem dX0_told_60 : decode cX0_told 60 = .ok (.ireturn, 1) := by decide +kernel
theorem dX0_told_61 : decode cX0_told 61 = .ok (.iconst (-1), 1) := by decide +kernel
theorem dX0_told_62 : decode cX0_told 62 = .ok (.ireturn, 1) := by decide +kernel
theorem dX0_clear_0 : decode cX0_clear 0 = .ok (.iconst 0, 1) := by decide +kernel
theorem dX0_clear_1 : decode cX0_clear 1 = .ok (.istore_n 1, 1) := by decide +kernel
theorem dX0_clear_2 : decode cX0_clear 2 = .ok (.iload_n 1, 1) := by decide +kernel
theorem dX0_clear_3 : decode cX0_clear 3 = .ok (.aload_n 0, 1) := by decide +kernel
theorem dX0_clear_4 : decode cX0_clear 4 = .ok (.getfield 20, 3) := by decide +kernel
theorem dX0_clear_7 : decode cX0_clear 7 = .ok (.if_icmp .ge 23, 3) := by decide +kernel
theorem dX0_clear_10 : decode cX0_clear 10 = .ok (.aload_n 0, 1) := by decide +kernel
theorem dX0_clear_11 : decode cX0_clear 11 = .ok (.getfield 23, 3) := by decide +kernel
theorem dX0_clear_14 : decode cX0_clear 14 = .ok (.iload_n 1, 1) := by decide +kernel
theorem dX0_clear_15 : decode cX0_clear 15 = .ok (.iconst 0, 1) := by decide +kernel
theorem dX0_clear_16 : decode cX0_clear 16 = .ok (.iastore, 1) := by decide +kernel
theorem dX0_clear_17 : decode cX0_clear 17 = .ok (.aload_n 0, 1) := by decide +kernel
theorem dX0_clear_18 : decode cX0_clear 18 = .ok (.getfield 27, 3) := by decide +kernel
theorem dX0_clear_21 : decode cX0_clear 21 = .ok (.iload_n 1, 1) := by decide +kernel
theorem dX0_clear_22 : decode cX0_clear 22 = .ok (.iconst 0, 1) := by decide +kernel
theorem dX0_clear_23 : decode cX0_clear 23 = .ok (.bastore, 1) := by decide +kernel
theorem dX0_clear_24 : decode cX0_clear 24 = .ok (.iinc 1 1, 3) := by decide +kernel
theorem dX0_clear_27 : decode cX0_clear 27 = .ok (.goto (-25), 3) := by decide +kernel
theorem dX0_clear_30 : decode cX0_clear 30 = .ok (.aload_n 0, 1) := by decide +kernel
theorem dX0_clear_31 : decode cX0_clear 31 = .ok (.lconst 0, 1) := by decide +kernel
theorem dX0_clear_32 : decode cX0_clear 32 = .ok (.putfield 101, 3) := by decide +kernel
theorem dX0_clear_35 : decode cX0_clear 35 = .ok (.return_, 1) := by decide +kernel
theorem dX0_nearestSide_0 : decode cX0_nearestSide 0 = .ok (.iconst 1, 1) := by decide +kernel
theorem dX0_nearestSide_1 : decode cX0_nearestSide 1 = .ok (.bipush 16, 2) := by decide +kernel
theorem dX0_nearestSide_3 : decode cX0_nearestSide 3 = .ok (.iload_n 0, 1) := by decide +kernel
theorem dX0_nearestSide_4 : decode cX0_nearestSide 4 = .ok (.invokestatic 165, 3) := by decide +kernel
theorem dX0_nearestSide_7 : decode cX0_nearestSide 7 = .ok (.invokestatic 168, 3) := by decide +kernel
theorem dX0_nearestSide_10 : decode cX0_nearestSide 10 = .ok (.ireturn, 1) := by decide +kernel
theorem dX0_isInside_0 : decode cX0_isInside 0 = .ok (.iload_n 1, 1) := by decide +kernel
theorem dX0_isInside_1 : decode cX0_isInside 1 = .ok (.ifCond .lt 27, 3) := by decide +kernel
theorem dX0_isInside_4 : decode cX0_isInside 4 = .ok (.iload_n 1, 1) := by decide +kernel
theorem dX0_isInside_5 : decode cX0_isInside 5 = .ok (.aload_n 0, 1) := by decide +kernel
theorem dX0_isInside_6 : decode cX0_isInside 6 = .ok (.getfield 13, 3) := by decide +kernel
theorem dX0_isInside_9 : decode cX0_isInside 9 = .ok (.if_icmp .ge 19, 3) := by decide +kernel
theorem dX0_isInside_12 : decode cX0_isInside 12 = .ok (.iload_n 2, 1) := by decide +kernel
theorem dX0_isInside_13 : decode cX0_isInside 13 = .ok (.ifCond .lt 15, 3) := by decide +kernel
theorem dX0_isInside_16 : decode cX0_isInside 16 = .ok (.iload_n 2, 1) := by decide +kernel
theorem dX0_isInside_17 : decode cX0_isInside 17 = .ok (.aload_n 0, 1) := by decide +kernel
theorem dX0_isInside_18 : decode cX0_isInside 18 = .ok (.getfield 17, 3) := by decide +kernel
theorem dX0_isInside_21 : decode cX0_isInside 21 = .ok (.if_icmp .ge 7, 3) := by decide +kernel
theorem dX0_isInside_24 : decode cX0_isInside 24 = .ok (.iconst 1, 1) := by decide +kernel
theorem dX0_isInside_25 : decode cX0_isInside 25 = .ok (.goto 4, 3) := by decide +kernel
theorem dX0_isInside_28 : decode cX0_isInside 28 = .ok (.iconst 0, 1) := by decide +kernel
theorem dX0_isInside_29 : decode cX0_isInside 29 = .ok (.ireturn, 1) := by decide +kernel
theorem dX0_placeOf_0 : decode cX0_placeOf 0 = .ok (.iload_n 2, 1) := by decide +kernel
theorem dX0_placeOf_1 : decode cX0_placeOf 1 = .ok (.aload_n 0, 1) := by decide +kernel
theorem dX0_placeOf_2 : decode cX0_placeOf 2 = .ok (.getfield 13, 3) := by decide +kernel
theorem dX0_placeOf_5 : decode cX0_placeOf 5 = .ok (.imul, 1) := by decide +kernel
theorem dX0_placeOf_6 : decode cX0_placeOf 6 = .ok (.iload_n 1, 1) := by decide +kernel
theorem dX0_placeOf_7 : decode cX0_placeOf 7 = .ok (.iadd, 1) := by decide +kernel
theorem dX0_placeOf_8 : decode cX0_placeOf 8 = .ok (.ireturn, 1) := by decide +kernel
theorem dX0_columnOf_0 : decode cX0_columnOf 0 = .ok (.iload_n 1, 1) := by decide +kernel
theorem dX0_columnOf_1 : decode cX0_columnOf 1 = .ok (.aload_n 0, 1) := by decide +kernel
theorem dX0_columnOf_2 : decode cX0_columnOf 2 = .ok (.getfield 13, 3) := by decide +kernel
theorem dX0_columnOf_5 : decode cX0_columnOf 5 = .ok (.irem, 1) := by decide +kernel
theorem dX0_columnOf_6 : decode cX0_columnOf 6 = .ok (.ireturn, 1) := by decide +kernel
theorem dX0_rowOf_0 : decode cX0_rowOf 0 = .ok (.iload_n 1, 1) := by decide +kernel
theorem dX0_rowOf_1 : decode cX0_rowOf 1 = .ok (.aload_n 0, 1) := by decide +kernel
theorem dX0_rowOf_2 : decode cX0_rowOf 2 = .ok (.getfield 13, 3) := by decide +kernel
theorem dX0_rowOf_5 : decode cX0_rowOf 5 = .ok (.idiv, 1) := by decide +kernel
theorem dX0_rowOf_6 : decode cX0_rowOf 6 = .ok (.ireturn, 1) := by decide +kernel
theorem dX0_isPart_0 : decode cX0_isPart 0 = .ok (.iload_n 0, 1) := by decide +kernel
theorem dX0_isPart_1 : decode cX0_isPart 1 = .ok (.ifCond .lt 23, 3) := by decide +kernel
theorem dX0_isPart_4 : decode cX0_isPart 4 = .ok (.iload_n 0, 1) := by decide +kernel
theorem dX0_isPart_5 : decode cX0_isPart 5 = .ok (.iload_n 2, 1) := by decide +kernel
theorem dX0_isPart_6 : decode cX0_isPart 6 = .ok (.if_icmp .gt 18, 3) := by decide +kernel
theorem dX0_isPart_9 : decode cX0_isPart 9 = .ok (.iload_n 1, 1) := by decide +kernel
theorem dX0_isPart_10 : decode cX0_isPart 10 = .ok (.ifCond .lt 14, 3) := by decide +kernel
theorem dX0_isPart_13 : decode cX0_isPart 13 = .ok (.iload_n 1, 1) := by decide +kernel
theorem dX0_isPart_14 : decode cX0_isPart 14 = .ok (.iload_n 2, 1) := by decide +kernel
theorem dX0_isPart_15 : decode cX0_isPart 15 = .ok (.iload_n 0, 1) := by decide +kernel
theorem dX0_isPart_16 : decode cX0_isPart 16 = .ok (.isub, 1) := by decide +kernel
theorem dX0_isPart_17 : decode cX0_isPart 17 = .ok (.if_icmp .gt 7, 3) := by decide +kernel
theorem dX0_isPart_20 : decode cX0_isPart 20 = .ok (.iconst 1, 1) := by decide +kernel
theorem dX0_isPart_21 : decode cX0_isPart 21 = .ok (.goto 4, 3) := by decide +kernel
theorem dX0_isPart_24 : decode cX0_isPart 24 = .ok (.iconst 0, 1) := by decide +kernel
theorem dX0_isPart_25 : decode cX0_isPart 25 = .ok (.ireturn, 1) := by decide +kernel
theorem dX0_countBlack_0 : decode cX0_countBlack 0 = .ok (.iconst 0, 1) := by decide +kernel
theorem dX0_countBlack_1 : decode cX0_countBlack 1 = .ok (.istore_n 1, 1) := by decide +kernel
theorem dX0_countBlack_2 : decode cX0_countBlack 2 = .ok (.iconst 0, 1) := by decide +kernel
theorem dX0_countBlack_3 : decode cX0_countBlack 3 = .ok (.istore_n 2, 1) := by decide +kernel
theorem dX0_countBlack_4 : decode cX0_countBlack 4 = .ok (.iload_n 2, 1) := by decide +kernel
theorem dX0_countBlack_5 : decode cX0_countBlack 5 = .ok (.aload_n 0, 1) := by decide +kernel
theorem dX0_countBlack_6 : decode cX0_countBlack 6 = .ok (.getfield 20, 3) := by decide +kernel
theorem dX0_countBlack_9 : decode cX0_countBlack 9 = .ok (.if_icmp .ge 21, 3) := by decide +kernel
theorem dX0_countBlack_12 : decode cX0_countBlack 12 = .ok (.aload_n 0, 1) := by decide +kernel
theorem dX0_countBlack_13 : decode cX0_countBlack 13 = .ok (.getfield 27, 3) := by decide +kernel
theorem dX0_countBlack_16 : decode cX0_countBlack 16 = .ok (.iload_n 2, 1) := by decide +kernel
theorem dX0_countBlack_17 : decode cX0_countBlack 17 = .ok (.baload, 1) := by decide +kernel
theorem dX0_countBlack_18 : decode cX0_countBlack 18 = .ok (.ifCond .eq 6, 3) := by decide +kernel
theorem dX0_countBlack_21 : decode cX0_countBlack 21 = .ok (.iinc 1 1, 3) := by decide +kernel
theorem dX0_countBlack_24 : decode cX0_countBlack 24 = .ok (.iinc 2 1, 3) := by decide +kernel
theorem dX0_countBlack_27 : decode cX0_countBlack 27 = .ok (.goto (-23), 3) := by decide +kernel
theorem dX0_countBlack_30 : decode cX0_countBlack 30 = .ok (.iload_n 1, 1) := by decide +kernel
theorem dX0_countBlack_31 : decode cX0_countBlack 31 = .ok (.ireturn, 1) := by decide +kernel
theorem dX0_fillOfGrey_0 : decode cX0_fillOfGrey 0 = .ok (.aload_n 0, 1) := by decide +kernel
theorem dX0_fillOfGrey_1 : decode cX0_fillOfGrey 1 = .ok (.getfield 31, 3) := by decide +kernel
theorem dX0_fillOfGrey_4 : decode cX0_fillOfGrey 4 = .ok (.iconst 0, 1) := by decide +kernel
theorem dX0_fillOfGrey_5 : decode cX0_fillOfGrey 5 = .ok (.invokestatic 95, 3) := by decide +kernel
theorem dX0_fillOfGrey_8 : decode cX0_fillOfGrey 8 = .ok (.iconst 0, 1) := by decide +kernel
theorem dX0_fillOfGrey_9 : decode cX0_fillOfGrey 9 = .ok (.istore_n 1, 1) := by decide +kernel
theorem dX0_fillOfGrey_10 : decode cX0_fillOfGrey 10 = .ok (.iload_n 1, 1) := by decide +kernel
theorem dX0_fillOfGrey_11 : decode cX0_fillOfGrey 11 = .ok (.aload_n 0, 1) := by decide +kernel
theorem dX0_fillOfGrey_12 : decode cX0_fillOfGrey 12 = .ok (.getfield 20, 3) := by decide +kernel
theorem dX0_fillOfGrey_15 : decode cX0_fillOfGrey 15 = .ok (.if_icmp .ge 37, 3) := by decide +kernel
theorem dX0_fillOfGrey_18 : decode cX0_fillOfGrey 18 = .ok (.aload_n 0, 1) := by decide +kernel
theorem dX0_fillOfGrey_19 : decode cX0_fillOfGrey 19 = .ok (.getfield 23, 3) := by decide +kernel
theorem dX0_fillOfGrey_22 : decode cX0_fillOfGrey 22 = .ok (.iload_n 1, 1) := by decide +kernel
theorem dX0_fillOfGrey_23 : decode cX0_fillOfGrey 23 = .ok (.iaload, 1) := by decide +kernel
theorem dX0_fillOfGrey_24 : decode cX0_fillOfGrey 24 = .ok (.istore_n 2, 1) := by decide +kernel
theorem dX0_fillOfGrey_25 : decode cX0_fillOfGrey 25 = .ok (.iload_n 2, 1) := by decide +kernel
theorem dX0_fillOfGrey_26 : decode cX0_fillOfGrey 26 = .ok (.ifCond .lt 20, 3) := by decide +kernel
theorem dX0_fillOfGrey_29 : decode cX0_fillOfGrey 29 = .ok (.iload_n 2, 1) := by decide +kernel
theorem dX0_fillOfGrey_30 : decode cX0_fillOfGrey 30 = .ok (.sipush 256, 3) := by decide +kernel
theorem dX0_fillOfGrey_33 : decode cX0_fillOfGrey 33 = .ok (.if_icmp .ge 13, 3) := by decide +kernel
theorem dX0_fillOfGrey_36 : decode cX0_fillOfGrey 36 = .ok (.aload_n 0, 1) := by decide +kernel
theorem dX0_fillOfGrey_37 : decode cX0_fillOfGrey 37 = .ok (.getfield 31, 3) := by decide +kernel
theorem dX0_fillOfGrey_40 : decode cX0_fillOfGrey 40 = .ok (.iload_n 2, 1) := by decide +kernel
theorem dX0_fillOfGrey_41 : decode cX0_fillOfGrey 41 = .ok (.dup2, 1) := by decide +kernel
theorem dX0_fillOfGrey_42 : decode cX0_fillOfGrey 42 = .ok (.iaload, 1) := by decide +kernel
theorem dX0_fillOfGrey_43 : decode cX0_fillOfGrey 43 = .ok (.iconst 1, 1) := by decide +kernel
theorem dX0_fillOfGrey_44 : decode cX0_fillOfGrey 44 = .ok (.iadd, 1) := by decide +kernel
theorem dX0_fillOfGrey_45 : decode cX0_fillOfGrey 45 = .ok (.iastore, 1) := by decide +kernel
theorem dX0_fillOfGrey_46 : decode cX0_fillOfGrey 46 = .ok (.iinc 1 1, 3) := by decide +kernel
theorem dX0_fillOfGrey_49 : decode cX0_fillOfGrey 49 = .ok (.goto (-39), 3) := by decide +kernel
theorem dX0_fillOfGrey_52 : decode cX0_fillOfGrey 52 = .ok (.return_, 1) := by decide +kernel
theorem dX0_countGreys_0 : decode cX0_countGreys 0 = .ok (.aload_n 0, 1) := by decide +kernel
theorem dX0_countGreys_1 : decode cX0_countGreys 1 = .ok (.invokevirtual 171, 3) := by decide +kernel
theorem dX0_countGreys_4 : decode cX0_countGreys 4 = .ok (.iconst 0, 1) := by decide +kernel
theorem dX0_countGreys_5 : decode cX0_countGreys 5 = .ok (.istore_n 1, 1) := by decide +kernel
theorem dX0_countGreys_6 : decode cX0_countGreys 6 = .ok (.iconst 0, 1) := by decide +kernel
theorem dX0_countGreys_7 : decode cX0_countGreys 7 = .ok (.istore_n 2, 1) := by decide +kernel
theorem dX0_countGreys_8 : decode cX0_countGreys 8 = .ok (.iload_n 2, 1) := by decide +kernel
theorem dX0_countGreys_9 : decode cX0_countGreys 9 = .ok (.sipush 256, 3) := by decide +kernel
theorem dX0_countGreys_12 : decode cX0_countGreys 12 = .ok (.if_icmp .ge 21, 3) := by decide +kernel
theorem dX0_countGreys_15 : decode cX0_countGreys 15 = .ok (.aload_n 0, 1) := by decide +kernel
theorem dX0_countGreys_16 : decode cX0_countGreys 16 = .ok (.getfield 31, 3) := by decide +kernel
theorem dX0_countGreys_19 : decode cX0_countGreys 19 = .ok (.iload_n 2, 1) := by decide +kernel
theorem dX0_countGreys_20 : decode cX0_countGreys 20 = .ok (.iaload, 1) := by decide +kernel
theorem dX0_countGreys_21 : decode cX0_countGreys 21 = .ok (.ifCond .le 6, 3) := by decide +kernel
theorem dX0_countGreys_24 : decode cX0_countGreys 24 = .ok (.iinc 1 1, 3) := by decide +kernel
theorem dX0_countGreys_27 : decode cX0_countGreys 27 = .ok (.iinc 2 1, 3) := by decide +kernel
theorem dX0_countGreys_30 : decode cX0_countGreys 30 = .ok (.goto (-22), 3) := by decide +kernel
theorem dX0_countGreys_33 : decode cX0_countGreys 33 = .ok (.iload_n 1, 1) := by decide +kernel
theorem dX0_countGreys_34 : decode cX0_countGreys 34 = .ok (.ireturn, 1) := by decide +kernel
theorem dX0_bestBound_0 : decode cX0_bestBound 0 = .ok (.aload_n 0, 1) := by decide +kernel
theorem dX0_bestBound_1 : decode cX0_bestBound 1 = .ok (.invokevirtual 171, 3) := by decide +kernel
theorem dX0_bestBound_4 : decode cX0_bestBound 4 = .ok (.aload_n 0, 1) := by decide +kernel
theorem dX0_bestBound_5 : decode cX0_bestBound 5 = .ok (.invokevirtual 174, 3) := by decide +kernel
theorem dX0_bestBound_8 : decode cX0_bestBound 8 = .ok (.lstore_n 1, 1) := by decide +kernel
theorem dX0_bestBound_9 : decode cX0_bestBound 9 = .ok (.aload_n 0, 1) := by decide +kernel
theorem dX0_bestBound_10 : decode cX0_bestBound 10 = .ok (.getfield 23, 3) := by decide +kernel
theorem dX0_bestBound_13 : decode cX0_bestBound 13 = .ok (.iconst 0, 1) := by decide +kernel
theorem dX0_bestBound_14 : decode cX0_bestBound 14 = .ok (.iaload, 1) := by decide +kernel
theorem dX0_bestBound_15 : decode cX0_bestBound 15 = .ok (.iconst 1, 1) := by decide +kernel
theorem dX0_bestBound_16 : decode cX0_bestBound 16 = .ok (.isub, 1) := by decide +kernel
theorem dX0_bestBound_17 : decode cX0_bestBound 17 = .ok (.istore_n 3, 1) := by decide +kernel
theorem dX0_bestBound_18 : decode cX0_bestBound 18 = .ok (.lconst 0, 1) := by decide +kernel
theorem dX0_bestBound_19 : decode cX0_bestBound 19 = .ok (.lstore 4, 2) := by decide +kernel
theorem dX0_bestBound_21 : decode cX0_bestBound 21 = .ok (.lconst 1, 1) := by decide +kernel
theorem dX0_bestBound_22 : decode cX0_bestBound 22 = .ok (.lstore 6, 2) := by decide +kernel
theorem dX0_bestBound_24 : decode cX0_bestBound 24 = .ok (.lconst 0, 1) := by decide +kernel
theorem dX0_bestBound_25 : decode cX0_bestBound 25 = .ok (.lstore 8, 2) := by decide +kernel
theorem dX0_bestBound_27 : decode cX0_bestBound 27 = .ok (.lconst 0, 1) := by decide +kernel
theorem dX0_bestBound_28 : decode cX0_bestBound 28 = .ok (.lstore 10, 2) := by decide +kernel
theorem dX0_bestBound_30 : decode cX0_bestBound 30 = .ok (.iconst 0, 1) := by decide +kernel
theorem dX0_bestBound_31 : decode cX0_bestBound 31 = .ok (.istore 12, 2) := by decide +kernel
theorem dX0_bestBound_33 : decode cX0_bestBound 33 = .ok (.iload 12, 2) := by decide +kernel
theorem dX0_bestBound_35 : decode cX0_bestBound 35 = .ok (.sipush 255, 3) := by decide +kernel
theorem dX0_bestBound_38 : decode cX0_bestBound 38 = .ok (.if_icmp .ge 110, 3) := by decide +kernel
theorem dX0_bestBound_41 : decode cX0_bestBound 41 = .ok (.lload 8, 2) := by decide +kernel
theorem dX0_bestBound_43 : decode cX0_bestBound 43 = .ok (.aload_n 0, 1) := by decide +kernel
theorem dX0_bestBound_44 : decode cX0_bestBound 44 = .ok (.getfield 31, 3) := by decide +kernel
theorem dX0_bestBound_47 : decode cX0_bestBound 47 = .ok (.iload 12, 2) := by decide +kernel
theorem dX0_bestBound_49 : decode cX0_bestBound 49 = .ok (.iaload, 1) := by decide +kernel
theorem dX0_bestBound_50 : decode cX0_bestBound 50 = .ok (.i2l, 1) := by decide +kernel
theorem dX0_bestBound_51 : decode cX0_bestBound 51 = .ok (.ladd, 1) := by decide +kernel
theorem dX0_bestBound_52 : decode cX0_bestBound 52 = .ok (.lstore 8, 2) := by decide +kernel
theorem dX0_bestBound_54 : decode cX0_bestBound 54 = .ok (.lload 10, 2) := by decide +kernel
theorem dX0_bestBound_56 : decode cX0_bestBound 56 = .ok (.iload 12, 2) := by decide +kernel
theorem dX0_bestBound_58 : decode cX0_bestBound 58 = .ok (.i2l, 1) := by decide +kernel
theorem dX0_bestBound_59 : decode cX0_bestBound 59 = .ok (.aload_n 0, 1) := by decide +kernel
theorem dX0_bestBound_60 : decode cX0_bestBound 60 = .ok (.getfield 31, 3) := by decide +kernel
theorem dX0_bestBound_63 : decode cX0_bestBound 63 = .ok (.iload 12, 2) := by decide +kernel
theorem dX0_bestBound_65 : decode cX0_bestBound 65 = .ok (.iaload, 1) := by decide +kernel
theorem dX0_bestBound_66 : decode cX0_bestBound 66 = .ok (.i2l, 1) := by decide +kernel
theorem dX0_bestBound_67 : decode cX0_bestBound 67 = .ok (.lmul, 1) := by decide +kernel
theorem dX0_bestBound_68 : decode cX0_bestBound 68 = .ok (.ladd, 1) := by decide +kernel
theorem dX0_bestBound_69 : decode cX0_bestBound 69 = .ok (.lstore 10, 2) := by decide +kernel
theorem dX0_bestBound_71 : decode cX0_bestBound 71 = .ok (.aload_n 0, 1) := by decide +kernel
theorem dX0_bestBound_72 : decode cX0_bestBound 72 = .ok (.getfield 20, 3) := by decide +kernel
theorem dX0_bestBound_75 : decode cX0_bestBound 75 = .ok (.i2l, 1) := by decide +kernel
theorem dX0_bestBound_76 : decode cX0_bestBound 76 = .ok (.lload 8, 2) := by decide +kernel
theorem dX0_bestBound_78 : decode cX0_bestBound 78 = .ok (.lsub, 1) := by decide +kernel
theorem dX0_bestBound_79 : decode cX0_bestBound 79 = .ok (.lstore 13, 2) := by decide +kernel
theorem dX0_bestBound_81 : decode cX0_bestBound 81 = .ok (.lload 10, 2) := by decide +kernel
theorem dX0_bestBound_83 : decode cX0_bestBound 83 = .ok (.lload 13, 2) := by decide +kernel
theorem dX0_bestBound_85 : decode cX0_bestBound 85 = .ok (.lmul, 1) := by decide +kernel
theorem dX0_bestBound_86 : decode cX0_bestBound 86 = .ok (.lload_n 1, 1) := by decide +kernel
theorem dX0_bestBound_87 : decode cX0_bestBound 87 = .ok (.lload 10, 2) := by decide +kernel
theorem dX0_bestBound_89 : decode cX0_bestBound 89 = .ok (.lsub, 1) := by decide +kernel
theorem dX0_bestBound_90 : decode cX0_bestBound 90 = .ok (.lload 8, 2) := by decide +kernel
theorem dX0_bestBound_92 : decode cX0_bestBound 92 = .ok (.lmul, 1) := by decide +kernel
theorem dX0_bestBound_93 : decode cX0_bestBound 93 = .ok (.lsub, 1) := by decide +kernel
theorem dX0_bestBound_94 : decode cX0_bestBound 94 = .ok (.lstore 15, 2) := by decide +kernel
theorem dX0_bestBound_96 : decode cX0_bestBound 96 = .ok (.lload 15, 2) := by decide +kernel
theorem dX0_bestBound_98 : decode cX0_bestBound 98 = .ok (.lload 15, 2) := by decide +kernel
theorem dX0_bestBound_100 : decode cX0_bestBound 100 = .ok (.lmul, 1) := by decide +kernel
theorem dX0_bestBound_101 : decode cX0_bestBound 101 = .ok (.lstore 17, 2) := by decide +kernel
theorem dX0_bestBound_103 : decode cX0_bestBound 103 = .ok (.lload 8, 2) := by decide +kernel
theorem dX0_bestBound_105 : decode cX0_bestBound 105 = .ok (.lload 13, 2) := by decide +kernel
theorem dX0_bestBound_107 : decode cX0_bestBound 107 = .ok (.lmul, 1) := by decide +kernel
theorem dX0_bestBound_108 : decode cX0_bestBound 108 = .ok (.lstore 19, 2) := by decide +kernel
theorem dX0_bestBound_110 : decode cX0_bestBound 110 = .ok (.lload 19, 2) := by decide +kernel
theorem dX0_bestBound_112 : decode cX0_bestBound 112 = .ok (.lconst 0, 1) := by decide +kernel
theorem dX0_bestBound_113 : decode cX0_bestBound 113 = .ok (.lcmp, 1) := by decide +kernel
theorem dX0_bestBound_114 : decode cX0_bestBound 114 = .ok (.ifCond .le 28, 3) := by decide +kernel
theorem dX0_bestBound_117 : decode cX0_bestBound 117 = .ok (.lload 17, 2) := by decide +kernel
theorem dX0_bestBound_119 : decode cX0_bestBound 119 = .ok (.lload 6, 2) := by decide +kernel
theorem dX0_bestBound_121 : decode cX0_bestBound 121 = .ok (.lmul, 1) := by decide +kernel
theorem dX0_bestBound_122 : decode cX0_bestBound 122 = .ok (.lload 4, 2) := by decide +kernel
theorem dX0_bestBound_124 : decode cX0_bestBound 124 = .ok (.lload 19, 2) := by decide +kernel
theorem dX0_bestBound_126 : decode cX0_bestBound 126 = .ok (.lmul, 1) := by decide +kernel
theorem dX0_bestBound_127 : decode cX0_bestBound 127 = .ok (.lcmp, 1) := by decide +kernel
theorem dX0_bestBound_128 : decode cX0_bestBound 128 = .ok (.ifCond .le 14, 3) := by decide +kernel
theorem dX0_bestBound_131 : decode cX0_bestBound 131 = .ok (.iload 12, 2) := by decide +kernel
theorem dX0_bestBound_133 : decode cX0_bestBound 133 = .ok (.istore_n 3, 1) := by decide +kernel
theorem dX0_bestBound_134 : decode cX0_bestBound 134 = .ok (.lload 17, 2) := by decide +kernel
theorem dX0_bestBound_136 : decode cX0_bestBound 136 = .ok (.lstore 4, 2) := by decide +kernel
theorem dX0_bestBound_138 : decode cX0_bestBound 138 = .ok (.lload 19, 2) := by decide +kernel
theorem dX0_bestBound_140 : decode cX0_bestBound 140 = .ok (.lstore 6, 2) := by decide +kernel
theorem dX0_bestBound_142 : decode cX0_bestBound 142 = .ok (.iinc 12 1, 3) := by decide +kernel
theorem dX0_bestBound_145 : decode cX0_bestBound 145 = .ok (.goto (-112), 3) := by decide +kernel
theorem dX0_bestBound_148 : decode cX0_bestBound 148 = .ok (.iload_n 3, 1) := by decide +kernel
theorem dX0_bestBound_149 : decode cX0_bestBound 149 = .ok (.ireturn, 1) := by decide +kernel
theorem dX0_sumOfSamples_0 : decode cX0_sumOfSamples 0 = .ok (.lconst 0, 1) := by decide +kernel
theorem dX0_sumOfSamples_1 : decode cX0_sumOfSamples 1 = .ok (.lstore_n 1, 1) := by decide +kernel
theorem dX0_sumOfSamples_2 : decode cX0_sumOfSamples 2 = .ok (.iconst 0, 1) := by decide +kernel
theorem dX0_sumOfSamples_3 : decode cX0_sumOfSamples 3 = .ok (.istore_n 3, 1) := by decide +kernel
theorem dX0_sumOfSamples_4 : decode cX0_sumOfSamples 4 = .ok (.iload_n 3, 1) := by decide +kernel
theorem dX0_sumOfSamples_5 : decode cX0_sumOfSamples 5 = .ok (.aload_n 0, 1) := by decide +kernel
theorem dX0_sumOfSamples_6 : decode cX0_sumOfSamples 6 = .ok (.getfield 20, 3) := by decide +kernel
theorem dX0_sumOfSamples_9 : decode cX0_sumOfSamples 9 = .ok (.if_icmp .ge 19, 3) := by decide +kernel
theorem dX0_sumOfSamples_12 : decode cX0_sumOfSamples 12 = .ok (.lload_n 1, 1) := by decide +kernel
theorem dX0_sumOfSamples_13 : decode cX0_sumOfSamples 13 = .ok (.aload_n 0, 1) := by decide +kernel
theorem dX0_sumOfSamples_14 : decode cX0_sumOfSamples 14 = .ok (.getfield 23, 3) := by decide +kernel
theorem dX0_sumOfSamples_17 : decode cX0_sumOfSamples 17 = .ok (.iload_n 3, 1) := by decide +kernel
theorem dX0_sumOfSamples_18 : decode cX0_sumOfSamples 18 = .ok (.iaload, 1) := by decide +kernel
theorem dX0_sumOfSamples_19 : decode cX0_sumOfSamples 19 = .ok (.i2l, 1) := by decide +kernel
theorem dX0_sumOfSamples_20 : decode cX0_sumOfSamples 20 = .ok (.ladd, 1) := by decide +kernel
theorem dX0_sumOfSamples_21 : decode cX0_sumOfSamples 21 = .ok (.lstore_n 1, 1) := by decide +kernel
theorem dX0_sumOfSamples_22 : decode cX0_sumOfSamples 22 = .ok (.iinc 3 1, 3) := by decide +kernel
theorem dX0_sumOfSamples_25 : decode cX0_sumOfSamples 25 = .ok (.goto (-21), 3) := by decide +kernel
theorem dX0_sumOfSamples_28 : decode cX0_sumOfSamples 28 = .ok (.lload_n 1, 1) := by decide +kernel
theorem dX0_sumOfSamples_29 : decode cX0_sumOfSamples 29 = .ok (.lreturn, 1) := by decide +kernel
theorem dX0_fillSums_0 : decode cX0_fillSums 0 = .ok (.iconst 0, 1) := by decide +kernel
theorem dX0_fillSums_1 : decode cX0_fillSums 1 = .ok (.istore_n 1, 1) := by decide +kernel
theorem dX0_fillSums_2 : decode cX0_fillSums 2 = .ok (.iload_n 1, 1) := by decide +kernel
theorem dX0_fillSums_3 : decode cX0_fillSums 3 = .ok (.aload_n 0, 1) := by decide +kernel
theorem dX0_fillSums_4 : decode cX0_fillSums 4 = .ok (.getfield 17, 3) := by decide +kernel
theorem dX0_fillSums_7 : decode cX0_fillSums 7 = .ok (.if_icmp .ge 119, 3) := by decide +kernel
theorem dX0_fillSums_10 : decode cX0_fillSums 10 = .ok (.lconst 0, 1) := by decide +kernel
theorem dX0_fillSums_11 : decode cX0_fillSums 11 = .ok (.lstore_n 2, 1) := by decide +kernel
theorem dX0_fillSums_12 : decode cX0_fillSums 12 = .ok (.lconst 0, 1) := by decide +kernel
theorem dX0_fillSums_13 : decode cX0_fillSums 13 = .ok (.lstore 4, 2) := by decide +kernel
theorem dX0_fillSums_15 : decode cX0_fillSums 15 = .ok (.iconst 0, 1) := by decide +kernel
theorem dX0_fillSums_16 : decode cX0_fillSums 16 = .ok (.istore 6, 2) := by decide +kernel
theorem dX0_fillSums_18 : decode cX0_fillSums 18 = .ok (.iload 6, 2) := by decide +kernel
theorem dX0_fillSums_20 : decode cX0_fillSums 20 = .ok (.aload_n 0, 1) := by decide +kernel
theorem dX0_fillSums_21 : decode cX0_fillSums 21 = .ok (.getfield 13, 3) := by decide +kernel
theorem dX0_fillSums_24 : decode cX0_fillSums 24 = .ok (.if_icmp .ge 96, 3) := by decide +kernel
theorem dX0_fillSums_27 : decode cX0_fillSums 27 = .ok (.aload_n 0, 1) := by decide +kernel
theorem dX0_fillSums_28 : decode cX0_fillSums 28 = .ok (.getfield 23, 3) := by decide +kernel
theorem dX0_fillSums_31 : decode cX0_fillSums 31 = .ok (.aload_n 0, 1) := by decide +kernel
theorem dX0_fillSums_32 : decode cX0_fillSums 32 = .ok (.iload 6, 2) := by decide +kernel
theorem dX0_fillSums_34 : decode cX0_fillSums 34 = .ok (.iload_n 1, 1) := by decide +kernel
theorem dX0_fillSums_35 : decode cX0_fillSums 35 = .ok (.invokevirtual 66, 3) := by decide +kernel
theorem dX0_fillSums_38 : decode cX0_fillSums 38 = .ok (.iaload, 1) := by decide +kernel
theorem dX0_fillSums_39 : decode cX0_fillSums 39 = .ok (.i2l, 1) := by decide +kernel
theorem dX0_fillSums_40 : decode cX0_fillSums 40 = .ok (.lstore 7, 2) := by decide +kernel
theorem dX0_fillSums_42 : decode cX0_fillSums 42 = .ok (.lload_n 2, 1) := by decide +kernel
theorem dX0_fillSums_43 : decode cX0_fillSums 43 = .ok (.lload 7, 2) := by decide +kernel
theorem dX0_fillSums_45 : decode cX0_fillSums 45 = .ok (.ladd, 1) := by decide +kernel
theorem dX0_fillSums_46 : decode cX0_fillSums 46 = .ok (.lstore_n 2, 1) := by decide +kernel
theorem dX0_fillSums_47 : decode cX0_fillSums 47 = .ok (.lload 4, 2) := by decide +kernel
theorem dX0_fillSums_49 : decode cX0_fillSums 49 = .ok (.lload 7, 2) := by decide +kernel
theorem dX0_fillSums_51 : decode cX0_fillSums 51 = .ok (.lload 7, 2) := by decide +kernel
theorem dX0_fillSums_53 : decode cX0_fillSums 53 = .ok (.lmul, 1) := by decide +kernel
theorem dX0_fillSums_54 : decode cX0_fillSums 54 = .ok (.ladd, 1) := by decide +kernel
theorem dX0_fillSums_55 : decode cX0_fillSums 55 = .ok (.lstore 4, 2) := by decide +kernel
theorem dX0_fillSums_57 : decode cX0_fillSums 57 = .ok (.aload_n 0, 1) := by decide +kernel
theorem dX0_fillSums_58 : decode cX0_fillSums 58 = .ok (.iload 6, 2) := by decide +kernel
theorem dX0_fillSums_60 : decode cX0_fillSums 60 = .ok (.iconst 1, 1) := by decide +kernel
theorem dX0_fillSums_61 : decode cX0_fillSums 61 = .ok (.iadd, 1) := by decide +kernel
theorem dX0_fillSums_62 : decode cX0_fillSums 62 = .ok (.iload_n 1, 1) := by decide +kernel
theorem dX0_fillSums_63 : decode cX0_fillSums 63 = .ok (.invokevirtual 178, 3) := by decide +kernel
theorem dX0_fillSums_66 : decode cX0_fillSums 66 = .ok (.istore 9, 2) := by decide +kernel
theorem dX0_fillSums_68 : decode cX0_fillSums 68 = .ok (.aload_n 0, 1) := by decide +kernel
theorem dX0_fillSums_69 : decode cX0_fillSums 69 = .ok (.iload 6, 2) := by decide +kernel
theorem dX0_fillSums_71 : decode cX0_fillSums 71 = .ok (.iconst 1, 1) := by decide +kernel
theorem dX0_fillSums_72 : decode cX0_fillSums 72 = .ok (.iadd, 1) := by decide +kernel
theorem dX0_fillSums_73 : decode cX0_fillSums 73 = .ok (.iload_n 1, 1) := by decide +kernel
theorem dX0_fillSums_74 : decode cX0_fillSums 74 = .ok (.iconst 1, 1) := by decide +kernel
theorem dX0_fillSums_75 : decode cX0_fillSums 75 = .ok (.iadd, 1) := by decide +kernel
theorem dX0_fillSums_76 : decode cX0_fillSums 76 = .ok (.invokevirtual 178, 3) := by decide +kernel
theorem dX0_fillSums_79 : decode cX0_fillSums 79 = .ok (.istore 10, 2) := by decide +kernel
theorem dX0_fillSums_81 : decode cX0_fillSums 81 = .ok (.aload_n 0, 1) := by decide +kernel
theorem dX0_fillSums_82 : decode cX0_fillSums 82 = .ok (.getfield 37, 3) := by decide +kernel
theorem dX0_fillSums_85 : decode cX0_fillSums 85 = .ok (.iload 10, 2) := by decide +kernel
theorem dX0_fillSums_87 : decode cX0_fillSums 87 = .ok (.aload_n 0, 1) := by decide +kernel
theorem dX0_fillSums_88 : decode cX0_fillSums 88 = .ok (.getfield 37, 3) := by decide +kernel
theorem dX0_fillSums_91 : decode cX0_fillSums 91 = .ok (.iload 9, 2) := by decide +kernel
theorem dX0_fillSums_93 : decode cX0_fillSums 93 = .ok (.laload, 1) := by decide +kernel
theorem dX0_fillSums_94 : decode cX0_fillSums 94 = .ok (.lload_n 2, 1) := by decide +kernel
theorem dX0_fillSums_95 : decode cX0_fillSums 95 = .ok (.ladd, 1) := by decide +kernel
theorem dX0_fillSums_96 : decode cX0_fillSums 96 = .ok (.lastore, 1) := by decide +kernel
theorem dX0_fillSums_97 : decode cX0_fillSums 97 = .ok (.aload_n 0, 1) := by decide +kernel
theorem dX0_fillSums_98 : decode cX0_fillSums 98 = .ok (.getfield 41, 3) := by decide +kernel
theorem dX0_fillSums_101 : decode cX0_fillSums 101 = .ok (.iload 10, 2) := by decide +kernel
theorem dX0_fillSums_103 : decode cX0_fillSums 103 = .ok (.aload_n 0, 1) := by decide +kernel
theorem dX0_fillSums_104 : decode cX0_fillSums 104 = .ok (.getfield 41, 3) := by decide +kernel
theorem dX0_fillSums_107 : decode cX0_fillSums 107 = .ok (.iload 9, 2) := by decide +kernel
theorem dX0_fillSums_109 : decode cX0_fillSums 109 = .ok (.laload, 1) := by decide +kernel
theorem dX0_fillSums_110 : decode cX0_fillSums 110 = .ok (.lload 4, 2) := by decide +kernel
theorem dX0_fillSums_112 : decode cX0_fillSums 112 = .ok (.ladd, 1) := by decide +kernel
theorem dX0_fillSums_113 : decode cX0_fillSums 113 = .ok (.lastore, 1) := by decide +kernel
theorem dX0_fillSums_114 : decode cX0_fillSums 114 = .ok (.iinc 6 1, 3) := by decide +kernel
theorem dX0_fillSums_117 : decode cX0_fillSums 117 = .ok (.goto (-99), 3) := by decide +kernel
theorem dX0_fillSums_120 : decode cX0_fillSums 120 = .ok (.iinc 1 1, 3) := by decide +kernel
theorem dX0_fillSums_123 : decode cX0_fillSums 123 = .ok (.goto (-121), 3) := by decide +kernel
theorem dX0_fillSums_126 : decode cX0_fillSums 126 = .ok (.return_, 1) := by decide +kernel
theorem dX0_cornerOf_0 : decode cX0_cornerOf 0 = .ok (.iload_n 2, 1) := by decide +kernel
theorem dX0_cornerOf_1 : decode cX0_cornerOf 1 = .ok (.aload_n 0, 1) := by decide +kernel
theorem dX0_cornerOf_2 : decode cX0_cornerOf 2 = .ok (.getfield 13, 3) := by decide +kernel
theorem dX0_cornerOf_5 : decode cX0_cornerOf 5 = .ok (.iconst 1, 1) := by decide +kernel
theorem dX0_cornerOf_6 : decode cX0_cornerOf 6 = .ok (.iadd, 1) := by decide +kernel
theorem dX0_cornerOf_7 : decode cX0_cornerOf 7 = .ok (.imul, 1) := by decide +kernel
theorem dX0_cornerOf_8 : decode cX0_cornerOf 8 = .ok (.iload_n 1, 1) := by decide +kernel
theorem dX0_cornerOf_9 : decode cX0_cornerOf 9 = .ok (.iadd, 1) := by decide +kernel
theorem dX0_cornerOf_10 : decode cX0_cornerOf 10 = .ok (.ireturn, 1) := by decide +kernel
theorem dX0_sumBetween_0 : decode cX0_sumBetween 0 = .ok (.aload_n 1, 1) := by decide +kernel
theorem dX0_sumBetween_1 : decode cX0_sumBetween 1 = .ok (.aload_n 0, 1) := by decide +kernel
theorem dX0_sumBetween_2 : decode cX0_sumBetween 2 = .ok (.iload 4, 2) := by decide +kernel
theorem dX0_sumBetween_4 : decode cX0_sumBetween 4 = .ok (.iload 5, 2) := by decide +kernel
theorem dX0_sumBetween_6 : decode cX0_sumBetween 6 = .ok (.invokevirtual 178, 3) := by decide +kernel
theorem dX0_sumBetween_9 : decode cX0_sumBetween 9 = .ok (.laload, 1) := by decide +kernel
theorem dX0_sumBetween_10 : decode cX0_sumBetween 10 = .ok (.aload_n 1, 1) := by decide +kernel
theorem dX0_sumBetween_11 : decode cX0_sumBetween 11 = .ok (.aload_n 0, 1) := by decide +kernel
theorem dX0_sumBetween_12 : decode cX0_sumBetween 12 = .ok (.iload_n 2, 1) := by decide +kernel
theorem dX0_sumBetween_13 : decode cX0_sumBetween 13 = .ok (.iload 5, 2) := by decide +kernel
theorem dX0_sumBetween_15 : decode cX0_sumBetween 15 = .ok (.invokevirtual 178, 3) := by decide +kernel
theorem dX0_sumBetween_18 : decode cX0_sumBetween 18 = .ok (.laload, 1) := by decide +kernel
theorem dX0_sumBetween_19 : decode cX0_sumBetween 19 = .ok (.lsub, 1) := by decide +kernel
theorem dX0_sumBetween_20 : decode cX0_sumBetween 20 = .ok (.lstore 6, 2) := by decide +kernel
theorem dX0_sumBetween_22 : decode cX0_sumBetween 22 = .ok (.aload_n 1, 1) := by decide +kernel
theorem dX0_sumBetween_23 : decode cX0_sumBetween 23 = .ok (.aload_n 0, 1) := by decide +kernel
theorem dX0_sumBetween_24 : decode cX0_sumBetween 24 = .ok (.iload 4, 2) := by decide +kernel
theorem dX0_sumBetween_26 : decode cX0_sumBetween 26 = .ok (.iload_n 3, 1) := by decide +kernel
theorem dX0_sumBetween_27 : decode cX0_sumBetween 27 = .ok (.invokevirtual 178, 3) := by decide +kernel
theorem dX0_sumBetween_30 : decode cX0_sumBetween 30 = .ok (.laload, 1) := by decide +kernel
theorem dX0_sumBetween_31 : decode cX0_sumBetween 31 = .ok (.aload_n 1, 1) := by decide +kernel
theorem dX0_sumBetween_32 : decode cX0_sumBetween 32 = .ok (.aload_n 0, 1) := by decide +kernel
theorem dX0_sumBetween_33 : decode cX0_sumBetween 33 = .ok (.iload_n 2, 1) := by decide +kernel
theorem dX0_sumBetween_34 : decode cX0_sumBetween 34 = .ok (.iload_n 3, 1) := by decide +kernel
theorem dX0_sumBetween_35 : decode cX0_sumBetween 35 = .ok (.invokevirtual 178, 3) := by decide +kernel
theorem dX0_sumBetween_38 : decode cX0_sumBetween 38 = .ok (.laload, 1) := by decide +kernel
theorem dX0_sumBetween_39 : decode cX0_sumBetween 39 = .ok (.lsub, 1) := by decide +kernel
theorem dX0_sumBetween_40 : decode cX0_sumBetween 40 = .ok (.lstore 8, 2) := by decide +kernel
theorem dX0_sumBetween_42 : decode cX0_sumBetween 42 = .ok (.lload 6, 2) := by decide +kernel
theorem dX0_sumBetween_44 : decode cX0_sumBetween 44 = .ok (.lload 8, 2) := by decide +kernel
theorem dX0_sumBetween_46 : decode cX0_sumBetween 46 = .ok (.lsub, 1) := by decide +kernel
theorem dX0_sumBetween_47 : decode cX0_sumBetween 47 = .ok (.lreturn, 1) := by decide +kernel
theorem dX0_isDarkInWindow_0 : decode cX0_isDarkInWindow 0 = .ok (.iconst 0, 1) := by decide +kernel
theorem dX0_isDarkInWindow_1 : decode cX0_isDarkInWindow 1 = .ok (.iload_n 1, 1) := by decide +kernel
theorem dX0_isDarkInWindow_2 : decode cX0_isDarkInWindow 2 = .ok (.iload_n 3, 1) := by decide +kernel
theorem dX0_isDarkInWindow_3 : decode cX0_isDarkInWindow 3 = .ok (.isub, 1) := by decide +kernel
theorem dX0_isDarkInWindow_4 : decode cX0_isDarkInWindow 4 = .ok (.invokestatic 168, 3) := by decide +kernel
theorem dX0_isDarkInWindow_7 : decode cX0_isDarkInWindow 7 = .ok (.istore 5, 2) := by decide +kernel
theorem dX0_isDarkInWindow_9 : decode cX0_isDarkInWindow 9 = .ok (.iconst 0, 1) := by decide +kernel
theorem dX0_isDarkInWindow_10 : decode cX0_isDarkInWindow 10 = .ok (.iload_n 2, 1) := by decide +kernel
theorem dX0_isDarkInWindow_11 : decode cX0_isDarkInWindow 11 = .ok (.iload_n 3, 1) := by decide +kernel
theorem dX0_isDarkInWindow_12 : decode cX0_isDarkInWindow 12 = .ok (.isub, 1) := by decide +kernel
theorem dX0_isDarkInWindow_13 : decode cX0_isDarkInWindow 13 = .ok (.invokestatic 168, 3) := by decide +kernel
theorem dX0_isDarkInWindow_16 : decode cX0_isDarkInWindow 16 = .ok (.istore 6, 2) := by decide +kernel
theorem dX0_isDarkInWindow_18 : decode cX0_isDarkInWindow 18 = .ok (.aload_n 0, 1) := by decide +kernel
theorem dX0_isDarkInWindow_19 : decode cX0_isDarkInWindow 19 = .ok (.getfield 13, 3) := by decide +kernel
theorem dX0_isDarkInWindow_22 : decode cX0_isDarkInWindow 22 = .ok (.iload_n 1, 1) := by decide +kernel
theorem dX0_isDarkInWindow_23 : decode cX0_isDarkInWindow 23 = .ok (.iload_n 3, 1) := by decide +kernel
theorem dX0_isDarkInWindow_24 : decode cX0_isDarkInWindow 24 = .ok (.iadd, 1) := by decide +kernel
theorem dX0_isDarkInWindow_25 : decode cX0_isDarkInWindow 25 = .ok (.iconst 1, 1) := by decide +kernel
theorem dX0_isDarkInWindow_26 : decode cX0_isDarkInWindow 26 = .ok (.iadd, 1) := by decide +kernel
theorem dX0_isDarkInWindow_27 : decode cX0_isDarkInWindow 27 = .ok (.invokestatic 165, 3) := by decide +kernel
theorem dX0_isDarkInWindow_30 : decode cX0_isDarkInWindow 30 = .ok (.istore 7, 2) := by decide +kernel
theorem dX0_isDarkInWindow_32 : decode cX0_isDarkInWindow 32 = .ok (.aload_n 0, 1) := by decide +kernel
theorem dX0_isDarkInWindow_33 : decode cX0_isDarkInWindow 33 = .ok (.getfield 17, 3) := by decide +kernel
theorem dX0_isDarkInWindow_36 : decode cX0_isDarkInWindow 36 = .ok (.iload_n 2, 1) := by decide +kernel
theorem dX0_isDarkInWindow_37 : decode cX0_isDarkInWindow 37 = .ok (.iload_n 3, 1) := by decide +kernel
theorem dX0_isDarkInWindow_38 : decode cX0_isDarkInWindow 38 = .ok (.iadd, 1) := by decide +kernel
theorem dX0_isDarkInWindow_39 : decode cX0_isDarkInWindow 39 = .ok (.iconst 1, 1) := by decide +kernel
theorem dX0_isDarkInWindow_40 : decode cX0_isDarkInWindow 40 = .ok (.iadd, 1) := by decide +kernel
theorem dX0_isDarkInWindow_41 : decode cX0_isDarkInWindow 41 = .ok (.invokestatic 165, 3) := by decide +kernel
theorem dX0_isDarkInWindow_44 : decode cX0_isDarkInWindow 44 = .ok (.istore 8, 2) := by decide +kernel
theorem dX0_isDarkInWindow_46 : decode cX0_isDarkInWindow 46 = .ok (.iload 7, 2) := by decide +kernel
theorem dX0_isDarkInWindow_48 : decode cX0_isDarkInWindow 48 = .ok (.iload 5, 2) := by decide +kernel
theorem dX0_isDarkInWindow_50 : decode cX0_isDarkInWindow 50 = .ok (.isub, 1) := by decide +kernel
theorem dX0_isDarkInWindow_51 : decode cX0_isDarkInWindow 51 = .ok (.i2l, 1) := by decide +kernel
theorem dX0_isDarkInWindow_52 : decode cX0_isDarkInWindow 52 = .ok (.iload 8, 2) := by decide +kernel
theorem dX0_isDarkInWindow_54 : decode cX0_isDarkInWindow 54 = .ok (.iload 6, 2) := by decide +kernel
theorem dX0_isDarkInWindow_56 : decode cX0_isDarkInWindow 56 = .ok (.isub, 1) := by decide +kernel
theorem dX0_isDarkInWindow_57 : decode cX0_isDarkInWindow 57 = .ok (.i2l, 1) := by decide +kernel
theorem dX0_isDarkInWindow_58 : decode cX0_isDarkInWindow 58 = .ok (.lmul, 1) := by decide +kernel
theorem dX0_isDarkInWindow_59 : decode cX0_isDarkInWindow 59 = .ok (.lstore 9, 2) := by decide +kernel
theorem dX0_isDarkInWindow_61 : decode cX0_isDarkInWindow 61 = .ok (.aload_n 0, 1) := by decide +kernel
theorem dX0_isDarkInWindow_62 : decode cX0_isDarkInWindow 62 = .ok (.aload_n 0, 1) := by decide +kernel
theorem dX0_isDarkInWindow_63 : decode cX0_isDarkInWindow 63 = .ok (.getfield 37, 3) := by decide +kernel
theorem dX0_isDarkInWindow_66 : decode cX0_isDarkInWindow 66 = .ok (.iload 5, 2) := by decide +kernel
theorem dX0_isDarkInWindow_68 : decode cX0_isDarkInWindow 68 = .ok (.iload 6, 2) := by decide +kernel
theorem dX0_isDarkInWindow_70 : decode cX0_isDarkInWindow 70 = .ok (.iload 7, 2) := by decide +kernel
theorem dX0_isDarkInWindow_72 : decode cX0_isDarkInWindow 72 = .ok (.iload 8, 2) := by decide +kernel
theorem dX0_isDarkInWindow_74 : decode cX0_isDarkInWindow 74 = .ok (.invokevirtual 153, 3) := by decide +kernel
theorem dX0_isDarkInWindow_77 : decode cX0_isDarkInWindow 77 = .ok (.lstore 11, 2) := by decide +kernel
theorem dX0_isDarkInWindow_79 : decode cX0_isDarkInWindow 79 = .ok (.aload_n 0, 1) := by decide +kernel
theorem dX0_isDarkInWindow_80 : decode cX0_isDarkInWindow 80 = .ok (.aload_n 0, 1) := by decide +kernel
theorem dX0_isDarkInWindow_81 : decode cX0_isDarkInWindow 81 = .ok (.getfield 41, 3) := by decide +kernel
theorem dX0_isDarkInWindow_84 : decode cX0_isDarkInWindow 84 = .ok (.iload 5, 2) := by decide +kernel
theorem dX0_isDarkInWindow_86 : decode cX0_isDarkInWindow 86 = .ok (.iload 6, 2) := by decide +kernel
theorem dX0_isDarkInWindow_88 : decode cX0_isDarkInWindow 88 = .ok (.iload 7, 2) := by decide +kernel
theorem dX0_isDarkInWindow_90 : decode cX0_isDarkInWindow 90 = .ok (.iload 8, 2) := by decide +kernel
theorem dX0_isDarkInWindow_92 : decode cX0_isDarkInWindow 92 = .ok (.invokevirtual 153, 3) := by decide +kernel
theorem dX0_isDarkInWindow_95 : decode cX0_isDarkInWindow 95 = .ok (.lstore 13, 2) := by decide +kernel
theorem dX0_isDarkInWindow_97 : decode cX0_isDarkInWindow 97 = .ok (.lload 9, 2) := by decide +kernel
theorem dX0_isDarkInWindow_99 : decode cX0_isDarkInWindow 99 = .ok (.lload 13, 2) := by decide +kernel
theorem dX0_isDarkInWindow_101 : decode cX0_isDarkInWindow 101 = .ok (.lmul, 1) := by decide +kernel
theorem dX0_isDarkInWindow_102 : decode cX0_isDarkInWindow 102 = .ok (.lload 11, 2) := by decide +kernel
theorem dX0_isDarkInWindow_104 : decode cX0_isDarkInWindow 104 = .ok (.lload 11, 2) := by decide +kernel
theorem dX0_isDarkInWindow_106 : decode cX0_isDarkInWindow 106 = .ok (.lmul, 1) := by decide +kernel
theorem dX0_isDarkInWindow_107 : decode cX0_isDarkInWindow 107 = .ok (.lsub, 1) := by decide +kernel
theorem dX0_isDarkInWindow_108 : decode cX0_isDarkInWindow 108 = .ok (.lstore 15, 2) := by decide +kernel
theorem dX0_isDarkInWindow_110 : decode cX0_isDarkInWindow 110 = .ok (.aload_n 0, 1) := by decide +kernel
theorem dX0_isDarkInWindow_111 : decode cX0_isDarkInWindow 111 = .ok (.getfield 23, 3) := by decide +kernel
theorem dX0_isDarkInWindow_114 : decode cX0_isDarkInWindow 114 = .ok (.aload_n 0, 1) := by decide +kernel
theorem dX0_isDarkInWindow_115 : decode cX0_isDarkInWindow 115 = .ok (.iload_n 1, 1) := by decide +kernel
theorem dX0_isDarkInWindow_116 : decode cX0_isDarkInWindow 116 = .ok (.iload_n 2, 1) := by decide +kernel
theorem dX0_isDarkInWindow_117 : decode cX0_isDarkInWindow 117 = .ok (.invokevirtual 66, 3) := by decide +kernel
theorem dX0_isDarkInWindow_120 : decode cX0_isDarkInWindow 120 = .ok (.iaload, 1) := by decide +kernel
theorem dX0_isDarkInWindow_121 : decode cX0_isDarkInWindow 121 = .ok (.istore 17, 2) := by decide +kernel
theorem dX0_isDarkInWindow_123 : decode cX0_isDarkInWindow 123 = .ok (.lload 15, 2) := by decide +kernel
theorem dX0_isDarkInWindow_125 : decode cX0_isDarkInWindow 125 = .ok (.lconst 0, 1) := by decide +kernel
theorem dX0_isDarkInWindow_126 : decode cX0_isDarkInWindow 126 = .ok (.lcmp, 1) := by decide +kernel
theorem dX0_isDarkInWindow_127 : decode cX0_isDarkInWindow 127 = .ok (.ifCond .ne 17, 3) := by decide +kernel
theorem dX0_isDarkInWindow_130 : decode cX0_isDarkInWindow 130 = .ok (.iload 17, 2) := by decide +kernel
theorem dX0_isDarkInWindow_132 : decode cX0_isDarkInWindow 132 = .ok (.sipush 128, 3) := by decide +kernel
theorem dX0_isDarkInWindow_135 : decode cX0_isDarkInWindow 135 = .ok (.if_icmp .ge 7, 3) := by decide +kernel
theorem dX0_isDarkInWindow_138 : decode cX0_isDarkInWindow 138 = .ok (.iconst 1, 1) := by decide +kernel
theorem dX0_isDarkInWindow_139 : decode cX0_isDarkInWindow 139 = .ok (.goto 4, 3) := by decide +kernel
theorem dX0_isDarkInWindow_142 : decode cX0_isDarkInWindow 142 = .ok (.iconst 0, 1) := by decide +kernel
theorem dX0_isDarkInWindow_143 : decode cX0_isDarkInWindow 143 = .ok (.ireturn, 1) := by decide +kernel
theorem dX0_isDarkInWindow_144 : decode cX0_isDarkInWindow 144 = .ok (.lload 11, 2) := by decide +kernel
theorem dX0_isDarkInWindow_146 : decode cX0_isDarkInWindow 146 = .ok (.lload 9, 2) := by decide +kernel
theorem dX0_isDarkInWindow_148 : decode cX0_isDarkInWindow 148 = .ok (.iload 17, 2) := by decide +kernel
theorem dX0_isDarkInWindow_150 : decode cX0_isDarkInWindow 150 = .ok (.i2l, 1) := by decide +kernel
theorem dX0_isDarkInWindow_151 : decode cX0_isDarkInWindow 151 = .ok (.lmul, 1) := by decide +kernel
theorem dX0_isDarkInWindow_152 : decode cX0_isDarkInWindow 152 = .ok (.lsub, 1) := by decide +kernel
theorem dX0_isDarkInWindow_153 : decode cX0_isDarkInWindow 153 = .ok (.lstore 18, 2) := by decide +kernel
theorem dX0_isDarkInWindow_155 : decode cX0_isDarkInWindow 155 = .ok (.lload 18, 2) := by decide +kernel
theorem dX0_isDarkInWindow_157 : decode cX0_isDarkInWindow 157 = .ok (.lconst 0, 1) := by decide +kernel
theorem dX0_isDarkInWindow_158 : decode cX0_isDarkInWindow 158 = .ok (.lcmp, 1) := by decide +kernel
theorem dX0_isDarkInWindow_159 : decode cX0_isDarkInWindow 159 = .ok (.ifCond .lt 30, 3) := by decide +kernel
theorem dX0_isDarkInWindow_162 : decode cX0_isDarkInWindow 162 = .ok (.ldc2_w 181, 3) := by decide +kernel
theorem dX0_isDarkInWindow_165 : decode cX0_isDarkInWindow 165 = .ok (.lload 18, 2) := by decide +kernel
theorem dX0_isDarkInWindow_167 : decode cX0_isDarkInWindow 167 = .ok (.lmul, 1) := by decide +kernel
theorem dX0_isDarkInWindow_168 : decode cX0_isDarkInWindow 168 = .ok (.lload 18, 2) := by decide +kernel
theorem dX0_isDarkInWindow_170 : decode cX0_isDarkInWindow 170 = .ok (.lmul, 1) := by decide +kernel
theorem dX0_isDarkInWindow_171 : decode cX0_isDarkInWindow 171 = .ok (.iload 4, 2) := by decide +kernel
theorem dX0_isDarkInWindow_173 : decode cX0_isDarkInWindow 173 = .ok (.i2l, 1) := by decide +kernel
theorem dX0_isDarkInWindow_174 : decode cX0_isDarkInWindow 174 = .ok (.iload 4, 2) := by decide +kernel
theorem dX0_isDarkInWindow_176 : decode cX0_isDarkInWindow 176 = .ok (.i2l, 1) := by decide +kernel
theorem dX0_isDarkInWindow_177 : decode cX0_isDarkInWindow 177 = .ok (.lmul, 1) := by decide +kernel
theorem dX0_isDarkInWindow_178 : decode cX0_isDarkInWindow 178 = .ok (.lload 15, 2) := by decide +kernel
theorem dX0_isDarkInWindow_180 : decode cX0_isDarkInWindow 180 = .ok (.lmul, 1) := by decide +kernel
theorem dX0_isDarkInWindow_181 : decode cX0_isDarkInWindow 181 = .ok (.lcmp, 1) := by decide +kernel
theorem dX0_isDarkInWindow_182 : decode cX0_isDarkInWindow 182 = .ok (.ifCond .lt 7, 3) := by decide +kernel
theorem dX0_isDarkInWindow_185 : decode cX0_isDarkInWindow 185 = .ok (.iconst 1, 1) := by decide +kernel
theorem dX0_isDarkInWindow_186 : decode cX0_isDarkInWindow 186 = .ok (.goto 4, 3) := by decide +kernel
theorem dX0_isDarkInWindow_189 : decode cX0_isDarkInWindow 189 = .ok (.iconst 0, 1) := by decide +kernel
theorem dX0_isDarkInWindow_190 : decode cX0_isDarkInWindow 190 = .ok (.ireturn, 1) := by decide +kernel
theorem dX0_spreadRow_0 : decode cX0_spreadRow 0 = .ok (.iload_n 2, 1) := by decide +kernel
theorem dX0_spreadRow_1 : decode cX0_spreadRow 1 = .ok (.iconst 1, 1) := by decide +kernel
theorem dX0_spreadRow_2 : decode cX0_spreadRow 2 = .ok (.if_icmp .ne 14, 3) := by decide +kernel
theorem dX0_spreadRow_5 : decode cX0_spreadRow 5 = .ok (.iload_n 1, 1) := by decide +kernel
theorem dX0_spreadRow_6 : decode cX0_spreadRow 6 = .ok (.iconst 2, 1) := by decide +kernel
theorem dX0_spreadRow_7 : decode cX0_spreadRow 7 = .ok (.irem, 1) := by decide +kernel
theorem dX0_spreadRow_8 : decode cX0_spreadRow 8 = .ok (.iconst 1, 1) := by decide +kernel
theorem dX0_spreadRow_9 : decode cX0_spreadRow 9 = .ok (.if_icmp .ne 7, 3) := by decide +kernel
theorem dX0_spreadRow_12 : decode cX0_spreadRow 12 = .ok (.iconst 1, 1) := by decide +kernel
theorem dX0_spreadRow_13 : decode cX0_spreadRow 13 = .ok (.goto 4, 3) := by decide +kernel
theorem dX0_spreadRow_16 : decode cX0_spreadRow 16 = .ok (.iconst 0, 1) := by decide +kernel
theorem dX0_spreadRow_17 : decode cX0_spreadRow 17 = .ok (.istore_n 3, 1) := by decide +kernel
theorem dX0_spreadRow_18 : decode cX0_spreadRow 18 = .ok (.iload_n 3, 1) := by decide +kernel
theorem dX0_spreadRow_19 : decode cX0_spreadRow 19 = .ok (.ifCond .eq 7, 3) := by decide +kernel
theorem dX0_spreadRow_22 : decode cX0_spreadRow 22 = .ok (.iconst (-1), 1) := by decide +kernel
theorem dX0_spreadRow_23 : decode cX0_spreadRow 23 = .ok (.goto 4, 3) := by decide +kernel
theorem dX0_spreadRow_26 : decode cX0_spreadRow 26 = .ok (.iconst 1, 1) := by decide +kernel
theorem dX0_spreadRow_27 : decode cX0_spreadRow 27 = .ok (.istore 4, 2) := by decide +kernel
theorem dX0_spreadRow_29 : decode cX0_spreadRow 29 = .ok (.iload_n 3, 1) := by decide +kernel
theorem dX0_spreadRow_30 : decode cX0_spreadRow 30 = .ok (.ifCond .eq 12, 3) := by decide +kernel
theorem dX0_spreadRow_33 : decode cX0_spreadRow 33 = .ok (.aload_n 0, 1) := by decide +kernel
theorem dX0_spreadRow_34 : decode cX0_spreadRow 34 = .ok (.getfield 13, 3) := by decide +kernel
theorem dX0_spreadRow_37 : decode cX0_spreadRow 37 = .ok (.iconst 1, 1) := by decide +kernel
theorem dX0_spreadRow_38 : decode cX0_spreadRow 38 = .ok (.isub, 1) := by decide +kernel
theorem dX0_spreadRow_39 : decode cX0_spreadRow 39 = .ok (.goto 4, 3) := by decide +kernel
theorem dX0_spreadRow_42 : decode cX0_spreadRow 42 = .ok (.iconst 0, 1) := by decide +kernel
theorem dX0_spreadRow_43 : decode cX0_spreadRow 43 = .ok (.istore 5, 2) := by decide +kernel
theorem dX0_spreadRow_45 : decode cX0_spreadRow 45 = .ok (.iconst 0, 1) := by decide +kernel
theorem dX0_spreadRow_46 : decode cX0_spreadRow 46 = .ok (.istore 6, 2) := by decide +kernel
theorem dX0_spreadRow_48 : decode cX0_spreadRow 48 = .ok (.iload 6, 2) := by decide +kernel
theorem dX0_spreadRow_50 : decode cX0_spreadRow 50 = .ok (.aload_n 0, 1) := by decide +kernel
theorem dX0_spreadRow_51 : decode cX0_spreadRow 51 = .ok (.getfield 13, 3) := by decide +kernel
theorem dX0_spreadRow_54 : decode cX0_spreadRow 54 = .ok (.if_icmp .ge 26, 3) := by decide +kernel
theorem dX0_spreadRow_57 : decode cX0_spreadRow 57 = .ok (.aload_n 0, 1) := by decide +kernel
theorem dX0_spreadRow_58 : decode cX0_spreadRow 58 = .ok (.iload 5, 2) := by decide +kernel
theorem dX0_spreadRow_60 : decode cX0_spreadRow 60 = .ok (.iload_n 1, 1) := by decide +kernel
theorem dX0_spreadRow_61 : decode cX0_spreadRow 61 = .ok (.iload 4, 2) := by decide +kernel
theorem dX0_spreadRow_63 : decode cX0_spreadRow 63 = .ok (.iload_n 2, 1) := by decide +kernel
theorem dX0_spreadRow_64 : decode cX0_spreadRow 64 = .ok (.invokevirtual 183, 3) := by decide +kernel
theorem dX0_spreadRow_67 : decode cX0_spreadRow 67 = .ok (.iload 5, 2) := by decide +kernel
theorem dX0_spreadRow_69 : decode cX0_spreadRow 69 = .ok (.iload 4, 2) := by decide +kernel
theorem dX0_spreadRow_71 : decode cX0_spreadRow 71 = .ok (.iadd, 1) := by decide +kernel
theorem dX0_spreadRow_72 : decode cX0_spreadRow 72 = .ok (.istore 5, 2) := by decide +kernel
theorem dX0_spreadRow_74 : decode cX0_spreadRow 74 = .ok (.iinc 6 1, 3) := by decide +kernel
theorem dX0_spreadRow_77 : decode cX0_spreadRow 77 = .ok (.goto (-29), 3) := by decide +kernel
theorem dX0_spreadRow_80 : decode cX0_spreadRow 80 = .ok (.return_, 1) := by decide +kernel
theorem dX0_spreadSample_0 : decode cX0_spreadSample 0 = .ok (.aload_n 0, 1) := by decide +kernel
theorem dX0_spreadSample_1 : decode cX0_spreadSample 1 = .ok (.iload_n 1, 1) := by decide +kernel
theorem dX0_spreadSample_2 : decode cX0_spreadSample 2 = .ok (.iload_n 2, 1) := by decide +kernel
theorem dX0_spreadSample_3 : decode cX0_spreadSample 3 = .ok (.invokevirtual 66, 3) := by decide +kernel
theorem dX0_spreadSample_6 : decode cX0_spreadSample 6 = .ok (.istore 5, 2) := by decide +kernel
theorem dX0_spreadSample_8 : decode cX0_spreadSample 8 = .ok (.aload_n 0, 1) := by decide +kernel
theorem dX0_spreadSample_9 : decode cX0_spreadSample 9 = .ok (.getfield 23, 3) := by decide +kernel
theorem dX0_spreadSample_12 : decode cX0_spreadSample 12 = .ok (.iload 5, 2) := by decide +kernel
theorem dX0_spreadSample_14 : decode cX0_spreadSample 14 = .ok (.iaload, 1) := by decide +kernel
theorem dX0_spreadSample_15 : decode cX0_spreadSample 15 = .ok (.aload_n 0, 1) := by decide +kernel
theorem dX0_spreadSample_16 : decode cX0_spreadSample 16 = .ok (.getfield 34, 3) := by decide +kernel
theorem dX0_spreadSample_19 : decode cX0_spreadSample 19 = .ok (.iload 5, 2) := by decide +kernel
theorem dX0_spreadSample_21 : decode cX0_spreadSample 21 = .ok (.iaload, 1) := by decide +kernel
theorem dX0_spreadSample_22 : decode cX0_spreadSample 22 = .ok (.iadd, 1) := by decide +kernel
theorem dX0_spreadSample_23 : decode cX0_spreadSample 23 = .ok (.istore 6, 2) := by decide +kernel
theorem dX0_spreadSample_25 : decode cX0_spreadSample 25 = .ok (.aload_n 0, 1) := by decide +kernel
theorem dX0_spreadSample_26 : decode cX0_spreadSample 26 = .ok (.getfield 27, 3) := by decide +kernel
theorem dX0_spreadSample_29 : decode cX0_spreadSample 29 = .ok (.iload 5, 2) := by decide +kernel
theorem dX0_spreadSample_31 : decode cX0_spreadSample 31 = .ok (.iload 6, 2) := by decide +kernel
theorem dX0_spreadSample_33 : decode cX0_spreadSample 33 = .ok (.sipush 128, 3) := by decide +kernel
theorem dX0_spreadSample_36 : decode cX0_spreadSample 36 = .ok (.if_icmp .ge 7, 3) := by decide +kernel
theorem dX0_spreadSample_39 : decode cX0_spreadSample 39 = .ok (.iconst 1, 1) := by decide +kernel
theorem dX0_spreadSample_40 : decode cX0_spreadSample 40 = .ok (.goto 4, 3) := by decide +kernel
theorem dX0_spreadSample_43 : decode cX0_spreadSample 43 = .ok (.iconst 0, 1) := by decide +kernel
theorem dX0_spreadSample_44 : decode cX0_spreadSample 44 = .ok (.bastore, 1) := by decide +kernel
theorem dX0_spreadSample_45 : decode cX0_spreadSample 45 = .ok (.aload_n 0, 1) := by decide +kernel
theorem dX0_spreadSample_46 : decode cX0_spreadSample 46 = .ok (.getfield 27, 3) := by decide +kernel
theorem dX0_spreadSample_49 : decode cX0_spreadSample 49 = .ok (.iload 5, 2) := by decide +kernel
theorem dX0_spreadSample_51 : decode cX0_spreadSample 51 = .ok (.baload, 1) := by decide +kernel
theorem dX0_spreadSample_52 : decode cX0_spreadSample 52 = .ok (.ifCond .eq 8, 3) := by decide +kernel
theorem dX0_spreadSample_55 : decode cX0_spreadSample 55 = .ok (.iload 6, 2) := by decide +kernel
theorem dX0_spreadSample_57 : decode cX0_spreadSample 57 = .ok (.goto 9, 3) := by decide +kernel
theorem dX0_spreadSample_60 : decode cX0_spreadSample 60 = .ok (.iload 6, 2) := by decide +kernel
theorem dX0_spreadSample_62 : decode cX0_spreadSample 62 = .ok (.sipush 255, 3) := by decide +kernel
theorem dX0_spreadSample_65 : decode cX0_spreadSample 65 = .ok (.isub, 1) := by decide +kernel
theorem dX0_spreadSample_66 : decode cX0_spreadSample 66 = .ok (.istore 7, 2) := by decide +kernel
theorem dX0_spreadSample_68 : decode cX0_spreadSample 68 = .ok (.iload 7, 2) := by decide +kernel
theorem dX0_spreadSample_70 : decode cX0_spreadSample 70 = .ok (.iconst 2, 1) := by decide +kernel
theorem dX0_spreadSample_71 : decode cX0_spreadSample 71 = .ok (.idiv, 1) := by decide +kernel
theorem dX0_spreadSample_72 : decode cX0_spreadSample 72 = .ok (.istore 8, 2) := by decide +kernel
theorem dX0_spreadSample_74 : decode cX0_spreadSample 74 = .ok (.iload 4, 2) := by decide +kernel
theorem dX0_spreadSample_76 : decode cX0_spreadSample 76 = .ok (.iconst 2, 1) := by decide +kernel
theorem dX0_spreadSample_77 : decode cX0_spreadSample 77 = .ok (.if_icmp .ne 10, 3) := by decide +kernel
theorem dX0_spreadSample_80 : decode cX0_spreadSample 80 = .ok (.iload 7, 2) := by decide +kernel
theorem dX0_spreadSample_82 : decode cX0_spreadSample 82 = .ok (.iconst 4, 1) := by decide +kernel
theorem dX0_spreadSample_83 : decode cX0_spreadSample 83 = .ok (.idiv, 1) := by decide +kernel
theorem dX0_spreadSample_84 : decode cX0_spreadSample 84 = .ok (.goto 8, 3) := by decide +kernel
theorem dX0_spreadSample_87 : decode cX0_spreadSample 87 = .ok (.iload 7, 2) := by decide +kernel
theorem dX0_spreadSample_89 : decode cX0_spreadSample 89 = .ok (.iload 8, 2) := by decide +kernel
theorem dX0_spreadSample_91 : decode cX0_spreadSample 91 = .ok (.isub, 1) := by decide +kernel
theorem dX0_spreadSample_92 : decode cX0_spreadSample 92 = .ok (.istore 9, 2) := by decide +kernel
theorem dX0_spreadSample_94 : decode cX0_spreadSample 94 = .ok (.iload 7, 2) := by decide +kernel
theorem dX0_spreadSample_96 : decode cX0_spreadSample 96 = .ok (.iload 8, 2) := by decide +kernel
theorem dX0_spreadSample_98 : decode cX0_spreadSample 98 = .ok (.isub, 1) := by decide +kernel
theorem dX0_spreadSample_99 : decode cX0_spreadSample 99 = .ok (.iload 9, 2) := by decide +kernel
theorem dX0_spreadSample_101 : decode cX0_spreadSample 101 = .ok (.isub, 1) := by decide +kernel
theorem dX0_spreadSample_102 : decode cX0_spreadSample 102 = .ok (.istore 10, 2) := by decide +kernel
theorem dX0_spreadSample_104 : decode cX0_spreadSample 104 = .ok (.aload_n 0, 1) := by decide +kernel
theorem dX0_spreadSample_105 : decode cX0_spreadSample 105 = .ok (.iload_n 1, 1) := by decide +kernel
theorem dX0_spreadSample_106 : decode cX0_spreadSample 106 = .ok (.iload_n 3, 1) := by decide +kernel
theorem dX0_spreadSample_107 : decode cX0_spreadSample 107 = .ok (.iadd, 1) := by decide +kernel
theorem dX0_spreadSample_108 : decode cX0_spreadSample 108 = .ok (.iload_n 2, 1) := by decide +kernel
theorem dX0_spreadSample_109 : decode cX0_spreadSample 109 = .ok (.iload 8, 2) := by decide +kernel
theorem dX0_spreadSample_111 : decode cX0_spreadSample 111 = .ok (.invokevirtual 187, 3) := by decide +kernel
theorem dX0_spreadSample_114 : decode cX0_spreadSample 114 = .ok (.aload_n 0, 1) := by decide +kernel
theorem dX0_spreadSample_115 : decode cX0_spreadSample 115 = .ok (.iload_n 1, 1) := by decide +kernel
theorem dX0_spreadSample_116 : decode cX0_spreadSample 116 = .ok (.iload_n 2, 1) := by decide +kernel
theorem dX0_spreadSample_117 : decode cX0_spreadSample 117 = .ok (.iconst 1, 1) := by decide +kernel
theorem dX0_spreadSample_118 : decode cX0_spreadSample 118 = .ok (.iadd, 1) := by decide +kernel
theorem dX0_spreadSample_119 : decode cX0_spreadSample 119 = .ok (.iload 9, 2) := by decide +kernel
theorem dX0_spreadSample_121 : decode cX0_spreadSample 121 = .ok (.invokevirtual 187, 3) := by decide +kernel
theorem dX0_spreadSample_124 : decode cX0_spreadSample 124 = .ok (.aload_n 0, 1) := by decide +kernel
theorem dX0_spreadSample_125 : decode cX0_spreadSample 125 = .ok (.iload_n 1, 1) := by decide +kernel
theorem dX0_spreadSample_126 : decode cX0_spreadSample 126 = .ok (.iload_n 3, 1) := by decide +kernel
theorem dX0_spreadSample_127 : decode cX0_spreadSample 127 = .ok (.isub, 1) := by decide +kernel
theorem dX0_spreadSample_128 : decode cX0_spreadSample 128 = .ok (.iload_n 2, 1) := by decide +kernel
theorem dX0_spreadSample_129 : decode cX0_spreadSample 129 = .ok (.iconst 1, 1) := by decide +kernel
theorem dX0_spreadSample_130 : decode cX0_spreadSample 130 = .ok (.iadd, 1) := by decide +kernel
theorem dX0_spreadSample_131 : decode cX0_spreadSample 131 = .ok (.iload 10, 2) := by decide +kernel
theorem dX0_spreadSample_133 : decode cX0_spreadSample 133 = .ok (.invokevirtual 187, 3) := by decide +kernel
theorem dX0_spreadSample_136 : decode cX0_spreadSample 136 = .ok (.return_, 1) := by decide +kernel
theorem dX0_passTo_0 : decode cX0_passTo 0 = .ok (.aload_n 0, 1) := by decide +kernel
theorem dX0_passTo_1 : decode cX0_passTo 1 = .ok (.iload_n 1, 1) := by decide +kernel
theorem dX0_passTo_2 : decode cX0_passTo 2 = .ok (.iload_n 2, 1) := by decide +kernel
theorem dX0_passTo_3 : decode cX0_passTo 3 = .ok (.invokevirtual 50, 3) := by decide +kernel
theorem dX0_passTo_6 : decode cX0_passTo 6 = .ok (.ifCond .eq 21, 3) := by decide +kernel
theorem dX0_passTo_9 : decode cX0_passTo 9 = .ok (.aload_n 0, 1) := by decide +kernel
theorem dX0_passTo_10 : decode cX0_passTo 10 = .ok (.getfield 34, 3) := by decide +kernel
theorem dX0_passTo_13 : decode cX0_passTo 13 = .ok (.aload_n 0, 1) := by decide +kernel
theorem dX0_passTo_14 : decode cX0_passTo 14 = .ok (.iload_n 1, 1) := by decide +kernel
theorem dX0_passTo_15 : decode cX0_passTo 15 = .ok (.iload_n 2, 1) := by decide +kernel
theorem dX0_passTo_16 : decode cX0_passTo 16 = .ok (.invokevirtual 66, 3) := by decide +kernel
theorem dX0_passTo_19 : decode cX0_passTo 19 = .ok (.dup2, 1) := by decide +kernel
theorem dX0_passTo_20 : decode cX0_passTo 20 = .ok (.iaload, 1) := by decide +kernel
theorem dX0_passTo_21 : decode cX0_passTo 21 = .ok (.iload_n 3, 1) := by decide +kernel
theorem dX0_passTo_22 : decode cX0_passTo 22 = .ok (.iadd, 1) := by decide +kernel
theorem dX0_passTo_23 : decode cX0_passTo 23 = .ok (.iastore, 1) := by decide +kernel
theorem dX0_passTo_24 : decode cX0_passTo 24 = .ok (.goto 14, 3) := by decide +kernel
theorem dX0_passTo_27 : decode cX0_passTo 27 = .ok (.aload_n 0, 1) := by decide +kernel
theorem dX0_passTo_28 : decode cX0_passTo 28 = .ok (.dup, 1) := by decide +kernel
theorem dX0_passTo_29 : decode cX0_passTo 29 = .ok (.getfield 101, 3) := by decide +kernel
theorem dX0_passTo_32 : decode cX0_passTo 32 = .ok (.iload_n 3, 1) := by decide +kernel
theorem dX0_passTo_33 : decode cX0_passTo 33 = .ok (.i2l, 1) := by decide +kernel
theorem dX0_passTo_34 : decode cX0_passTo 34 = .ok (.ladd, 1) := by decide +kernel
theorem dX0_passTo_35 : decode cX0_passTo 35 = .ok (.putfield 101, 3) := by decide +kernel
theorem dX0_passTo_38 : decode cX0_passTo 38 = .ok (.return_, 1) := by decide +kernel
theorem dX0_isCells_0 : decode cX0_isCells 0 = .ok (.iload_n 0, 1) := by decide +kernel
theorem dX0_isCells_1 : decode cX0_isCells 1 = .ok (.iconst 1, 1) := by decide +kernel
theorem dX0_isCells_2 : decode cX0_isCells 2 = .ok (.if_icmp .eq 19, 3) := by decide +kernel
theorem dX0_isCells_5 : decode cX0_isCells 5 = .ok (.iload_n 0, 1) := by decide +kernel
theorem dX0_isCells_6 : decode cX0_isCells 6 = .ok (.iconst 2, 1) := by decide +kernel
theorem dX0_isCells_7 : decode cX0_isCells 7 = .ok (.if_icmp .eq 14, 3) := by decide +kernel
theorem dX0_isCells_10 : decode cX0_isCells 10 = .ok (.iload_n 0, 1) := by decide +kernel
theorem dX0_isCells_11 : decode cX0_isCells 11 = .ok (.iconst 4, 1) := by decide +kernel
theorem dX0_isCells_12 : decode cX0_isCells 12 = .ok (.if_icmp .eq 9, 3) := by decide +kernel
theorem dX0_isCells_15 : decode cX0_isCells 15 = .ok (.iload_n 0, 1) := by decide +kernel
theorem dX0_isCells_16 : decode cX0_isCells 16 = .ok (.bipush 8, 2) := by decide +kernel
theorem dX0_isCells_18 : decode cX0_isCells 18 = .ok (.if_icmp .ne 7, 3) := by decide +kernel
theorem dX0_isCells_21 : decode cX0_isCells 21 = .ok (.iconst 1, 1) := by decide +kernel
theorem dX0_isCells_22 : decode cX0_isCells 22 = .ok (.goto 4, 3) := by decide +kernel
theorem dX0_isCells_25 : decode cX0_isCells 25 = .ok (.iconst 0, 1) := by decide +kernel
theorem dX0_isCells_26 : decode cX0_isCells 26 = .ok (.ireturn, 1) := by decide +kernel
theorem dX0_cellNumber_0 : decode cX0_cellNumber 0 = .ok (.iconst 0, 1) := by decide +kernel
theorem dX0_cellNumber_1 : decode cX0_cellNumber 1 = .ok (.istore_n 3, 1) := by decide +kernel
theorem dX0_cellNumber_2 : decode cX0_cellNumber 2 = .ok (.iconst 1, 1) := by decide +kernel
theorem dX0_cellNumber_3 : decode cX0_cellNumber 3 = .ok (.istore 4, 2) := by decide +kernel
theorem dX0_cellNumber_5 : decode cX0_cellNumber 5 = .ok (.iload 4, 2) := by decide +kernel
theorem dX0_cellNumber_7 : decode cX0_cellNumber 7 = .ok (.iload_n 0, 1) := by decide +kernel
theorem dX0_cellNumber_8 : decode cX0_cellNumber 8 = .ok (.if_icmp .ge 51, 3) := by decide +kernel
theorem dX0_cellNumber_11 : decode cX0_cellNumber 11 = .ok (.iload 4, 2) := by decide +kernel
theorem dX0_cellNumber_13 : decode cX0_cellNumber 13 = .ok (.bipush 8, 2) := by decide +kernel
theorem dX0_cellNumber_15 : decode cX0_cellNumber 15 = .ok (.if_icmp .ge 44, 3) := by decide +kernel
theorem dX0_cellNumber_18 : decode cX0_cellNumber 18 = .ok (.iconst 4, 1) := by decide +kernel
theorem dX0_cellNumber_19 : decode cX0_cellNumber 19 = .ok (.iload_n 3, 1) := by decide +kernel
theorem dX0_cellNumber_20 : decode cX0_cellNumber 20 = .ok (.imul, 1) := by decide +kernel
theorem dX0_cellNumber_21 : decode cX0_cellNumber 21 = .ok (.iload_n 1, 1) := by decide +kernel
theorem dX0_cellNumber_22 : decode cX0_cellNumber 22 = .ok (.iload 4, 2) := by decide +kernel
theorem dX0_cellNumber_24 : decode cX0_cellNumber 24 = .ok (.iand, 1) := by decide +kernel
theorem dX0_cellNumber_25 : decode cX0_cellNumber 25 = .ok (.ifCond .eq 7, 3) := by decide +kernel
theorem dX0_cellNumber_28 : decode cX0_cellNumber 28 = .ok (.iconst 1, 1) := by decide +kernel
theorem dX0_cellNumber_29 : decode cX0_cellNumber 29 = .ok (.goto 4, 3) := by decide +kernel
theorem dX0_cellNumber_32 : decode cX0_cellNumber 32 = .ok (.iconst 0, 1) := by decide +kernel
theorem dX0_cellNumber_33 : decode cX0_cellNumber 33 = .ok (.iload_n 2, 1) := by decide +kernel
theorem dX0_cellNumber_34 : decode cX0_cellNumber 34 = .ok (.iload 4, 2) := by decide +kernel
theorem dX0_cellNumber_36 : decode cX0_cellNumber 36 = .ok (.iand, 1) := by decide +kernel
theorem dX0_cellNumber_37 : decode cX0_cellNumber 37 = .ok (.ifCond .eq 7, 3) := by decide +kernel
theorem dX0_cellNumber_40 : decode cX0_cellNumber 40 = .ok (.iconst 1, 1) := by decide +kernel
theorem dX0_cellNumber_41 : decode cX0_cellNumber 41 = .ok (.goto 4, 3) := by decide +kernel
theorem dX0_cellNumber_44 : decode cX0_cellNumber 44 = .ok (.iconst 0, 1) := by decide +kernel
theorem dX0_cellNumber_45 : decode cX0_cellNumber 45 = .ok (.invokestatic 190, 3) := by decide +kernel
theorem dX0_cellNumber_48 : decode cX0_cellNumber 48 = .ok (.iadd, 1) := by decide +kernel
theorem dX0_cellNumber_49 : decode cX0_cellNumber 49 = .ok (.istore_n 3, 1) := by decide +kernel
theorem dX0_cellNumber_50 : decode cX0_cellNumber 50 = .ok (.iload 4, 2) := by decide +kernel
theorem dX0_cellNumber_52 : decode cX0_cellNumber 52 = .ok (.iconst 2, 1) := by decide +kernel
theorem dX0_cellNumber_53 : decode cX0_cellNumber 53 = .ok (.imul, 1) := by decide +kernel
theorem dX0_cellNumber_54 : decode cX0_cellNumber 54 = .ok (.istore 4, 2) := by decide +kernel
theorem dX0_cellNumber_56 : decode cX0_cellNumber 56 = .ok (.goto (-51), 3) := by decide +kernel
theorem dX0_cellNumber_59 : decode cX0_cellNumber 59 = .ok (.iload_n 3, 1) := by decide +kernel
theorem dX0_cellNumber_60 : decode cX0_cellNumber 60 = .ok (.ireturn, 1) := by decide +kernel
theorem dX0_quarterNumber_0 : decode cX0_quarterNumber 0 = .ok (.iload_n 1, 1) := by decide +kernel
theorem dX0_quarterNumber_1 : decode cX0_quarterNumber 1 = .ok (.ifCond .eq 13, 3) := by decide +kernel
theorem dX0_quarterNumber_4 : decode cX0_quarterNumber 4 = .ok (.iload_n 0, 1) := by decide +kernel
theorem dX0_quarterNumber_5 : decode cX0_quarterNumber 5 = .ok (.ifCond .eq 7, 3) := by decide +kernel
theorem dX0_quarterNumber_8 : decode cX0_quarterNumber 8 = .ok (.iconst 1, 1) := by decide +kernel
theorem dX0_quarterNumber_9 : decode cX0_quarterNumber 9 = .ok (.goto 4, 3) := by decide +kernel
theorem dX0_quarterNumber_12 : decode cX0_quarterNumber 12 = .ok (.iconst 3, 1) := by decide +kernel
theorem dX0_quarterNumber_13 : decode cX0_quarterNumber 13 = .ok (.ireturn, 1) := by decide +kernel
theorem dX0_quarterNumber_14 : decode cX0_quarterNumber 14 = .ok (.iload_n 0, 1) := by decide +kernel
theorem dX0_quarterNumber_15 : decode cX0_quarterNumber 15 = .ok (.ifCond .eq 7, 3) := by decide +kernel
theorem dX0_quarterNumber_18 : decode cX0_quarterNumber 18 = .ok (.iconst 2, 1) := by decide +kernel
theorem dX0_quarterNumber_19 : decode cX0_quarterNumber 19 = .ok (.goto 4, 3) := by decide +kernel
theorem dX0_quarterNumber_22 : decode cX0_quarterNumber 22 = .ok (.iconst 0, 1) := by decide +kernel
theorem dX0_quarterNumber_23 : decode cX0_quarterNumber 23 = .ok (.ireturn, 1) := by decide +kernel
theorem dX0_enqueue_0 : decode cX0_enqueue 0 = .ok (.aload_n 0, 1) := by decide +kernel
theorem dX0_enqueue_1 : decode cX0_enqueue 1 = .ok (.getfield 121, 3) := by decide +kernel
theorem dX0_enqueue_4 : decode cX0_enqueue 4 = .ok (.ifCond .lt 35, 3) := by decide +kernel
theorem dX0_enqueue_7 : decode cX0_enqueue 7 = .ok (.aload_n 0, 1) := by decide +kernel
theorem dX0_enqueue_8 : decode cX0_enqueue 8 = .ok (.getfield 121, 3) := by decide +kernel
theorem dX0_enqueue_11 : decode cX0_enqueue 11 = .ok (.aload_n 0, 1) := by decide +kernel
theorem dX0_enqueue_12 : decode cX0_enqueue 12 = .ok (.getfield 47, 3) := by decide +kernel
theorem dX0_enqueue_15 : decode cX0_enqueue 15 = .ok (.arraylength, 1) := by decide +kernel
theorem dX0_enqueue_16 : decode cX0_enqueue 16 = .ok (.if_icmp .ge 23, 3) := by decide +kernel
theorem dX0_enqueue_19 : decode cX0_enqueue 19 = .ok (.aload_n 0, 1) := by decide +kernel
theorem dX0_enqueue_20 : decode cX0_enqueue 20 = .ok (.getfield 47, 3) := by decide +kernel
theorem dX0_enqueue_23 : decode cX0_enqueue 23 = .ok (.aload_n 0, 1) := by decide +kernel
theorem dX0_enqueue_24 : decode cX0_enqueue 24 = .ok (.getfield 121, 3) := by decide +kernel
theorem dX0_enqueue_27 : decode cX0_enqueue 27 = .ok (.iload_n 1, 1) := by decide +kernel
theorem dX0_enqueue_28 : decode cX0_enqueue 28 = .ok (.iastore, 1) := by decide +kernel
theorem dX0_enqueue_29 : decode cX0_enqueue 29 = .ok (.aload_n 0, 1) := by decide +kernel
theorem dX0_enqueue_30 : decode cX0_enqueue 30 = .ok (.dup, 1) := by decide +kernel
theorem dX0_enqueue_31 : decode cX0_enqueue 31 = .ok (.getfield 121, 3) := by decide +kernel
theorem dX0_enqueue_34 : decode cX0_enqueue 34 = .ok (.iconst 1, 1) := by decide +kernel
theorem dX0_enqueue_35 : decode cX0_enqueue 35 = .ok (.iadd, 1) := by decide +kernel
theorem dX0_enqueue_36 : decode cX0_enqueue 36 = .ok (.putfield 121, 3) := by decide +kernel
theorem dX0_enqueue_39 : decode cX0_enqueue 39 = .ok (.return_, 1) := by decide +kernel
theorem dX0_blackenRound_0 : decode cX0_blackenRound 0 = .ok (.iload_n 2, 1) := by decide +kernel
theorem dX0_blackenRound_1 : decode cX0_blackenRound 1 = .ok (.iconst 1, 1) := by decide +kernel
theorem dX0_blackenRound_2 : decode cX0_blackenRound 2 = .ok (.isub, 1) := by decide +kernel
theorem dX0_blackenRound_3 : decode cX0_blackenRound 3 = .ok (.istore 4, 2) := by decide +kernel
theorem dX0_blackenRound_5 : decode cX0_blackenRound 5 = .ok (.iload 4, 2) := by decide +kernel
theorem dX0_blackenRound_7 : decode cX0_blackenRound 7 = .ok (.iload_n 2, 1) := by decide +kernel
theorem dX0_blackenRound_8 : decode cX0_blackenRound 8 = .ok (.iconst 1, 1) := by decide +kernel
theorem dX0_blackenRound_9 : decode cX0_blackenRound 9 = .ok (.iadd, 1) := by decide +kernel
theorem dX0_blackenRound_10 : decode cX0_blackenRound 10 = .ok (.if_icmp .gt 52, 3) := by decide +kernel
theorem dX0_blackenRound_13 : decode cX0_blackenRound 13 = .ok (.iload_n 1, 1) := by decide +kernel
theorem dX0_blackenRound_14 : decode cX0_blackenRound 14 = .ok (.iconst 1, 1) := by decide +kernel
theorem dX0_blackenRound_15 : decode cX0_blackenRound 15 = .ok (.isub, 1) := by decide +kernel
theorem dX0_blackenRound_16 : decode cX0_blackenRound 16 = .ok (.istore 5, 2) := by decide +kernel
theorem dX0_blackenRound_18 : decode cX0_blackenRound 18 = .ok (.iload 5, 2) := by decide +kernel
theorem dX0_blackenRound_20 : decode cX0_blackenRound 20 = .ok (.iload_n 1, 1) := by decide +kernel
theorem dX0_blackenRound_21 : decode cX0_blackenRound 21 = .ok (.iconst 1, 1) := by decide +kernel
theorem dX0_blackenRound_22 : decode cX0_blackenRound 22 = .ok (.iadd, 1) := by decide +kernel
theorem dX0_blackenRound_23 : decode cX0_blackenRound 23 = .ok (.if_icmp .gt 33, 3) := by decide +kernel
theorem dX0_blackenRound_26 : decode cX0_blackenRound 26 = .ok (.aload_n 0, 1) := by decide +kernel
theorem dX0_blackenRound_27 : decode cX0_blackenRound 27 = .ok (.iload 5, 2) := by decide +kernel
theorem dX0_blackenRound_29 : decode cX0_blackenRound 29 = .ok (.iload 4, 2) := by decide +kernel
theorem dX0_blackenRound_31 : decode cX0_blackenRound 31 = .ok (.invokevirtual 50, 3) := by decide +kernel
theorem dX0_blackenRound_34 : decode cX0_blackenRound 34 = .ok (.ifCond .eq 16, 3) := by decide +kernel
theorem dX0_blackenRound_37 : decode cX0_blackenRound 37 = .ok (.aload_n 0, 1) := by decide +kernel
theorem dX0_blackenRound_38 : decode cX0_blackenRound 38 = .ok (.aload_n 0, 1) := by decide +kernel
theorem dX0_blackenRound_39 : decode cX0_blackenRound 39 = .ok (.iload 5, 2) := by decide +kernel
theorem dX0_blackenRound_41 : decode cX0_blackenRound 41 = .ok (.iload 4, 2) := by decide +kernel
theorem dX0_blackenRound_43 : decode cX0_blackenRound 43 = .ok (.invokevirtual 66, 3) := by decide +kernel
theorem dX0_blackenRound_46 : decode cX0_blackenRound 46 = .ok (.iload_n 3, 1) := by decide +kernel
theorem dX0_blackenRound_47 : decode cX0_blackenRound 47 = .ok (.invokevirtual 194, 3) := by decide +kernel
theorem dX0_blackenRound_50 : decode cX0_blackenRound 50 = .ok (.iinc 5 1, 3) := by decide +kernel
theorem dX0_blackenRound_53 : decode cX0_blackenRound 53 = .ok (.goto (-35), 3) := by decide +kernel
theorem dX0_blackenRound_56 : decode cX0_blackenRound 56 = .ok (.iinc 4 1, 3) := by decide +kernel
theorem dX0_blackenRound_59 : decode cX0_blackenRound 59 = .ok (.goto (-54), 3) := by decide +kernel
theorem dX0_blackenRound_62 : decode cX0_blackenRound 62 = .ok (.return_, 1) := by decide +kernel
theorem dX0_blackenUpTo_0 : decode cX0_blackenUpTo 0 = .ok (.aload_n 0, 1) := by decide +kernel
theorem dX0_blackenUpTo_1 : decode cX0_blackenUpTo 1 = .ok (.getfield 27, 3) := by decide +kernel
theorem dX0_blackenUpTo_4 : decode cX0_blackenUpTo 4 = .ok (.iload_n 1, 1) := by decide +kernel
theorem dX0_blackenUpTo_5 : decode cX0_blackenUpTo 5 = .ok (.baload, 1) := by decide +kernel
theorem dX0_blackenUpTo_6 : decode cX0_blackenUpTo 6 = .ok (.ifCond .ne 25, 3) := by decide +kernel
theorem dX0_blackenUpTo_9 : decode cX0_blackenUpTo 9 = .ok (.aload_n 0, 1) := by decide +kernel
theorem dX0_blackenUpTo_10 : decode cX0_blackenUpTo 10 = .ok (.getfield 23, 3) := by decide +kernel
theorem dX0_blackenUpTo_13 : decode cX0_blackenUpTo 13 = .ok (.iload_n 1, 1) := by decide +kernel
theorem dX0_blackenUpTo_14 : decode cX0_blackenUpTo 14 = .ok (.iaload, 1) := by decide +kernel
theorem dX0_blackenUpTo_15 : decode cX0_blackenUpTo 15 = .ok (.iload_n 2, 1) := by decide +kernel
theorem dX0_blackenUpTo_16 : decode cX0_blackenUpTo 16 = .ok (.if_icmp .gt 15, 3) := by decide +kernel
theorem dX0_blackenUpTo_19 : decode cX0_blackenUpTo 19 = .ok (.aload_n 0, 1) := by decide +kernel
theorem dX0_blackenUpTo_20 : decode cX0_blackenUpTo 20 = .ok (.getfield 27, 3) := by decide +kernel
theorem dX0_blackenUpTo_23 : decode cX0_blackenUpTo 23 = .ok (.iload_n 1, 1) := by decide +kernel
theorem dX0_blackenUpTo_24 : decode cX0_blackenUpTo 24 = .ok (.iconst 1, 1) := by decide +kernel
theorem dX0_blackenUpTo_25 : decode cX0_blackenUpTo 25 = .ok (.bastore, 1) := by decide +kernel
theorem dX0_blackenUpTo_26 : decode cX0_blackenUpTo 26 = .ok (.aload_n 0, 1) := by decide +kernel
theorem dX0_blackenUpTo_27 : decode cX0_blackenUpTo 27 = .ok (.iload_n 1, 1) := by decide +kernel
theorem dX0_blackenUpTo_28 : decode cX0_blackenUpTo 28 = .ok (.invokevirtual 124, 3) := by decide +kernel
theorem dX0_blackenUpTo_31 : decode cX0_blackenUpTo 31 = .ok (.return_, 1) := by decide +kernel
theorem dX0_unmarkAll_0 : decode cX0_unmarkAll 0 = .ok (.iconst 0, 1) := by decide +kernel
theorem dX0_unmarkAll_1 : decode cX0_unmarkAll 1 = .ok (.istore_n 1, 1) := by decide +kernel
theorem dX0_unmarkAll_2 : decode cX0_unmarkAll 2 = .ok (.iload_n 1, 1) := by decide +kernel
theorem dX0_unmarkAll_3 : decode cX0_unmarkAll 3 = .ok (.aload_n 0, 1) := by decide +kernel
theorem dX0_unmarkAll_4 : decode cX0_unmarkAll 4 = .ok (.getfield 20, 3) := by decide +kernel
theorem dX0_unmarkAll_7 : decode cX0_unmarkAll 7 = .ok (.if_icmp .ge 16, 3) := by decide +kernel
theorem dX0_unmarkAll_10 : decode cX0_unmarkAll 10 = .ok (.aload_n 0, 1) := by decide +kernel
theorem dX0_unmarkAll_11 : decode cX0_unmarkAll 11 = .ok (.getfield 44, 3) := by decide +kernel
theorem dX0_unmarkAll_14 : decode cX0_unmarkAll 14 = .ok (.iload_n 1, 1) := by decide +kernel
theorem dX0_unmarkAll_15 : decode cX0_unmarkAll 15 = .ok (.iconst 0, 1) := by decide +kernel
theorem dX0_unmarkAll_16 : decode cX0_unmarkAll 16 = .ok (.bastore, 1) := by decide +kernel
theorem dX0_unmarkAll_17 : decode cX0_unmarkAll 17 = .ok (.iinc 1 1, 3) := by decide +kernel
theorem dX0_unmarkAll_20 : decode cX0_unmarkAll 20 = .ok (.goto (-18), 3) := by decide +kernel
theorem dX0_unmarkAll_23 : decode cX0_unmarkAll 23 = .ok (.return_, 1) := by decide +kernel
theorem dX0_gatherPart_0 : decode cX0_gatherPart 0 = .ok (.aload_n 0, 1) := by decide +kernel
theorem dX0_gatherPart_1 : decode cX0_gatherPart 1 = .ok (.iconst 0, 1) := by decide +kernel
theorem dX0_gatherPart_2 : decode cX0_gatherPart 2 = .ok (.putfield 121, 3) := by decide +kernel
theorem dX0_gatherPart_5 : decode cX0_gatherPart 5 = .ok (.aload_n 0, 1) := by decide +kernel
theorem dX0_gatherPart_6 : decode cX0_gatherPart 6 = .ok (.getfield 44, 3) := by decide +kernel
theorem dX0_gatherPart_9 : decode cX0_gatherPart 9 = .ok (.iload_n 1, 1) := by decide +kernel
theorem dX0_gatherPart_10 : decode cX0_gatherPart 10 = .ok (.iconst 1, 1) := by decide +kernel
theorem dX0_gatherPart_11 : decode cX0_gatherPart 11 = .ok (.bastore, 1) := by decide +kernel
theorem dX0_gatherPart_12 : decode cX0_gatherPart 12 = .ok (.aload_n 0, 1) := by decide +kernel
theorem dX0_gatherPart_13 : decode cX0_gatherPart 13 = .ok (.iload_n 1, 1) := by decide +kernel
theorem dX0_gatherPart_14 : decode cX0_gatherPart 14 = .ok (.invokevirtual 124, 3) := by decide +kernel
theorem dX0_gatherPart_17 : decode cX0_gatherPart 17 = .ok (.iconst 0, 1) := by decide +kernel
theorem dX0_gatherPart_18 : decode cX0_gatherPart 18 = .ok (.istore_n 3, 1) := by decide +kernel
theorem dX0_gatherPart_19 : decode cX0_gatherPart 19 = .ok (.iload_n 3, 1) := by decide +kernel
theorem dX0_gatherPart_20 : decode cX0_gatherPart 20 = .ok (.aload_n 0, 1) := by decide +kernel
theorem dX0_gatherPart_21 : decode cX0_gatherPart 21 = .ok (.getfield 20, 3) := by decide +kernel
theorem dX0_gatherPart_24 : decode cX0_gatherPart 24 = .ok (.if_icmp .ge 85, 3) := by decide +kernel
theorem dX0_gatherPart_27 : decode cX0_gatherPart 27 = .ok (.iload_n 3, 1) := by decide +kernel
theorem dX0_gatherPart_28 : decode cX0_gatherPart 28 = .ok (.aload_n 0, 1) := by decide +kernel
theorem dX0_gatherPart_29 : decode cX0_gatherPart 29 = .ok (.getfield 121, 3) := by decide +kernel
theorem dX0_gatherPart_32 : decode cX0_gatherPart 32 = .ok (.if_icmp .ge 77, 3) := by decide +kernel
theorem dX0_gatherPart_35 : decode cX0_gatherPart 35 = .ok (.aload_n 0, 1) := by decide +kernel
theorem dX0_gatherPart_36 : decode cX0_gatherPart 36 = .ok (.aload_n 0, 1) := by decide +kernel
theorem dX0_gatherPart_37 : decode cX0_gatherPart 37 = .ok (.getfield 47, 3) := by decide +kernel
theorem dX0_gatherPart_40 : decode cX0_gatherPart 40 = .ok (.iload_n 3, 1) := by decide +kernel
theorem dX0_gatherPart_41 : decode cX0_gatherPart 41 = .ok (.iaload, 1) := by decide +kernel
theorem dX0_gatherPart_42 : decode cX0_gatherPart 42 = .ok (.invokevirtual 128, 3) := by decide +kernel
theorem dX0_gatherPart_45 : decode cX0_gatherPart 45 = .ok (.istore 4, 2) := by decide +kernel
theorem dX0_gatherPart_47 : decode cX0_gatherPart 47 = .ok (.aload_n 0, 1) := by decide +kernel
theorem dX0_gatherPart_48 : decode cX0_gatherPart 48 = .ok (.aload_n 0, 1) := by decide +kernel
theorem dX0_gatherPart_49 : decode cX0_gatherPart 49 = .ok (.getfield 47, 3) := by decide +kernel
theorem dX0_gatherPart_52 : decode cX0_gatherPart 52 = .ok (.iload_n 3, 1) := by decide +kernel
theorem dX0_gatherPart_53 : decode cX0_gatherPart 53 = .ok (.iaload, 1) := by decide +kernel
theorem dX0_gatherPart_54 : decode cX0_gatherPart 54 = .ok (.invokevirtual 131, 3) := by decide +kernel
theorem dX0_gatherPart_57 : decode cX0_gatherPart 57 = .ok (.istore 5, 2) := by decide +kernel
theorem dX0_gatherPart_59 : decode cX0_gatherPart 59 = .ok (.aload_n 0, 1) := by decide +kernel
theorem dX0_gatherPart_60 : decode cX0_gatherPart 60 = .ok (.iload 4, 2) := by decide +kernel
theorem dX0_gatherPart_62 : decode cX0_gatherPart 62 = .ok (.iconst 1, 1) := by decide +kernel
theorem dX0_gatherPart_63 : decode cX0_gatherPart 63 = .ok (.isub, 1) := by decide +kernel
theorem dX0_gatherPart_64 : decode cX0_gatherPart 64 = .ok (.iload 5, 2) := by decide +kernel
theorem dX0_gatherPart_66 : decode cX0_gatherPart 66 = .ok (.iload_n 2, 1) := by decide +kernel
theorem dX0_gatherPart_67 : decode cX0_gatherPart 67 = .ok (.invokevirtual 197, 3) := by decide +kernel
theorem dX0_gatherPart_70 : decode cX0_gatherPart 70 = .ok (.aload_n 0, 1) := by decide +kernel
theorem dX0_gatherPart_71 : decode cX0_gatherPart 71 = .ok (.iload 4, 2) := by decide +kernel
theorem dX0_gatherPart_73 : decode cX0_gatherPart 73 = .ok (.iconst 1, 1) := by decide +kernel
theorem dX0_gatherPart_74 : decode cX0_gatherPart 74 = .ok (.iadd, 1) := by decide +kernel
theorem dX0_gatherPart_75 : decode cX0_gatherPart 75 = .ok (.iload 5, 2) := by decide +kernel
theorem dX0_gatherPart_77 : decode cX0_gatherPart 77 = .ok (.iload_n 2, 1) := by decide +kernel
theorem dX0_gatherPart_78 : decode cX0_gatherPart 78 = .ok (.invokevirtual 197, 3) := by decide +kernel
theorem dX0_gatherPart_81 : decode cX0_gatherPart 81 = .ok (.aload_n 0, 1) := by decide +kernel
theorem dX0_gatherPart_82 : decode cX0_gatherPart 82 = .ok (.iload 4, 2) := by decide +kernel
theorem dX0_gatherPart_84 : decode cX0_gatherPart 84 = .ok (.iload 5, 2) := by decide +kernel
theorem dX0_gatherPart_86 : decode cX0_gatherPart 86 = .ok (.iconst 1, 1) := by decide +kernel
theorem dX0_gatherPart_87 : decode cX0_gatherPart 87 = .ok (.isub, 1) := by decide +kernel
theorem dX0_gatherPart_88 : decode cX0_gatherPart 88 = .ok (.iload_n 2, 1) := by decide +kernel
theorem dX0_gatherPart_89 : decode cX0_gatherPart 89 = .ok (.invokevirtual 197, 3) := by decide +kernel
theorem dX0_gatherPart_92 : decode cX0_gatherPart 92 = .ok (.aload_n 0, 1) := by decide +kernel
theorem dX0_gatherPart_93 : decode cX0_gatherPart 93 = .ok (.iload 4, 2) := by decide +kernel
theorem dX0_gatherPart_95 : decode cX0_gatherPart 95 = .ok (.iload 5, 2) := by decide +kernel
theorem dX0_gatherPart_97 : decode cX0_gatherPart 97 = .ok (.iconst 1, 1) := by decide +kernel
theorem dX0_gatherPart_98 : decode cX0_gatherPart 98 = .ok (.iadd, 1) := by decide +kernel
theorem dX0_gatherPart_99 : decode cX0_gatherPart 99 = .ok (.iload_n 2, 1) := by decide +kernel
theorem dX0_gatherPart_100 : decode cX0_gatherPart 100 = .ok (.invokevirtual 197, 3) := by decide +kernel
theorem dX0_gatherPart_103 : decode cX0_gatherPart 103 = .ok (.iinc 3 1, 3) := by decide +kernel
theorem dX0_gatherPart_106 : decode cX0_gatherPart 106 = .ok (.goto (-87), 3) := by decide +kernel
theorem dX0_gatherPart_109 : decode cX0_gatherPart 109 = .ok (.return_, 1) := by decide +kernel
theorem dX0_gather_0 : decode cX0_gather 0 = .ok (.aload_n 0, 1) := by decide +kernel
theorem dX0_gather_1 : decode cX0_gather 1 = .ok (.iload_n 1, 1) := by decide +kernel
theorem dX0_gather_2 : decode cX0_gather 2 = .ok (.iload_n 2, 1) := by decide +kernel
theorem dX0_gather_3 : decode cX0_gather 3 = .ok (.invokevirtual 50, 3) := by decide +kernel
theorem dX0_gather_6 : decode cX0_gather 6 = .ok (.ifCond .ne 4, 3) := by decide +kernel
theorem dX0_gather_9 : decode cX0_gather 9 = .ok (.return_, 1) := by decide +kernel
theorem dX0_gather_10 : decode cX0_gather 10 = .ok (.aload_n 0, 1) := by decide +kernel
theorem dX0_gather_11 : decode cX0_gather 11 = .ok (.iload_n 1, 1) := by decide +kernel
theorem dX0_gather_12 : decode cX0_gather 12 = .ok (.iload_n 2, 1) := by decide +kernel
theorem dX0_gather_13 : decode cX0_gather 13 = .ok (.invokevirtual 66, 3) := by decide +kernel
theorem dX0_gather_16 : decode cX0_gather 16 = .ok (.istore 4, 2) := by decide +kernel
theorem dX0_gather_18 : decode cX0_gather 18 = .ok (.aload_n 0, 1) := by decide +kernel
theorem dX0_gather_19 : decode cX0_gather 19 = .ok (.getfield 27, 3) := by decide +kernel
theorem dX0_gather_22 : decode cX0_gather 22 = .ok (.iload 4, 2) := by decide +kernel
theorem dX0_gather_24 : decode cX0_gather 24 = .ok (.baload, 1) := by decide +kernel
theorem dX0_gather_25 : decode cX0_gather 25 = .ok (.iload_n 3, 1) := by decide +kernel
theorem dX0_gather_26 : decode cX0_gather 26 = .ok (.if_icmp .ne 27, 3) := by decide +kernel
theorem dX0_gather_29 : decode cX0_gather 29 = .ok (.aload_n 0, 1) := by decide +kernel
theorem dX0_gather_30 : decode cX0_gather 30 = .ok (.getfield 44, 3) := by decide +kernel
theorem dX0_gather_33 : decode cX0_gather 33 = .ok (.iload 4, 2) := by decide +kernel
theorem dX0_gather_35 : decode cX0_gather 35 = .ok (.baload, 1) := by decide +kernel
theorem dX0_gather_36 : decode cX0_gather 36 = .ok (.ifCond .ne 17, 3) := by decide +kernel
theorem dX0_gather_39 : decode cX0_gather 39 = .ok (.aload_n 0, 1) := by decide +kernel
theorem dX0_gather_40 : decode cX0_gather 40 = .ok (.getfield 44, 3) := by decide +kernel
theorem dX0_gather_43 : decode cX0_gather 43 = .ok (.iload 4, 2) := by decide +kernel
theorem dX0_gather_45 : decode cX0_gather 45 = .ok (.iconst 1, 1) := by decide +kernel
theorem dX0_gather_46 : decode cX0_gather 46 = .ok (.bastore, 1) := by decide +kernel
theorem dX0_gather_47 : decode cX0_gather 47 = .ok (.aload_n 0, 1) := by decide +kernel
theorem dX0_gather_48 : decode cX0_gather 48 = .ok (.iload 4, 2) := by decide +kernel
theorem dX0_gather_50 : decode cX0_gather 50 = .ok (.invokevirtual 124, 3) := by decide +kernel
theorem dX0_gather_53 : decode cX0_gather 53 = .ok (.return_, 1) := by decide +kernel
theorem dX0_countBlackParts_0 : decode cX0_countBlackParts 0 = .ok (.aload_n 0, 1) := by decide +kernel
theorem dX0_countBlackParts_1 : decode cX0_countBlackParts 1 = .ok (.invokevirtual 201, 3) := by decide +kernel
theorem dX0_countBlackParts_4 : decode cX0_countBlackParts 4 = .ok (.iconst 0, 1) := by decide +kernel
theorem dX0_countBlackParts_5 : decode cX0_countBlackParts 5 = .ok (.istore_n 1, 1) := by decide +kernel
theorem dX0_countBlackParts_6 : decode cX0_countBlackParts 6 = .ok (.iconst 0, 1) := by decide +kernel
theorem dX0_countBlackParts_7 : decode cX0_countBlackParts 7 = .ok (.istore_n 2, 1) := by decide +kernel
theorem dX0_countBlackParts_8 : decode cX0_countBlackParts 8 = .ok (.iload_n 2, 1) := by decide +kernel
theorem dX0_countBlackParts_9 : decode cX0_countBlackParts 9 = .ok (.aload_n 0, 1) := by decide +kernel
theorem dX0_countBlackParts_10 : decode cX0_countBlackParts 10 = .ok (.getfield 20, 3) := by decide +kernel
theorem dX0_countBlackParts_13 : decode cX0_countBlackParts 13 = .ok (.if_icmp .ge 36, 3) := by decide +kernel
theorem dX0_countBlackParts_16 : decode cX0_countBlackParts 16 = .ok (.aload_n 0, 1) := by decide +kernel
theorem dX0_countBlackParts_17 : decode cX0_countBlackParts 17 = .ok (.getfield 27, 3) := by decide +kernel
theorem dX0_countBlackParts_20 : decode cX0_countBlackParts 20 = .ok (.iload_n 2, 1) := by decide +kernel
theorem dX0_countBlackParts_21 : decode cX0_countBlackParts 21 = .ok (.baload, 1) := by decide +kernel
theorem dX0_countBlackParts_22 : decode cX0_countBlackParts 22 = .ok (.ifCond .eq 21, 3) := by decide +kernel
theorem dX0_countBlackParts_25 : decode cX0_countBlackParts 25 = .ok (.aload_n 0, 1) := by decide +kernel
theorem dX0_countBlackParts_26 : decode cX0_countBlackParts 26 = .ok (.getfield 44, 3) := by decide +kernel
theorem dX0_countBlackParts_29 : decode cX0_countBlackParts 29 = .ok (.iload_n 2, 1) := by decide +kernel
theorem dX0_countBlackParts_30 : decode cX0_countBlackParts 30 = .ok (.baload, 1) := by decide +kernel
theorem dX0_countBlackParts_31 : decode cX0_countBlackParts 31 = .ok (.ifCond .ne 12, 3) := by decide +kernel
theorem dX0_countBlackParts_34 : decode cX0_countBlackParts 34 = .ok (.aload_n 0, 1) := by decide +kernel
theorem dX0_countBlackParts_35 : decode cX0_countBlackParts 35 = .ok (.iload_n 2, 1) := by decide +kernel
theorem dX0_countBlackParts_36 : decode cX0_countBlackParts 36 = .ok (.iconst 1, 1) := by decide +kernel
theorem dX0_countBlackParts_37 : decode cX0_countBlackParts 37 = .ok (.invokevirtual 204, 3) := by decide +kernel
theorem dX0_countBlackParts_40 : decode cX0_countBlackParts 40 = .ok (.iinc 1 1, 3) := by decide +kernel
theorem dX0_countBlackParts_43 : decode cX0_countBlackParts 43 = .ok (.iinc 2 1, 3) := by decide +kernel
theorem dX0_countBlackParts_46 : decode cX0_countBlackParts 46 = .ok (.goto (-38), 3) := by decide +kernel
theorem dX0_countBlackParts_49 : decode cX0_countBlackParts 49 = .ok (.iload_n 1, 1) := by decide +kernel
theorem dX0_countBlackParts_50 : decode cX0_countBlackParts 50 = .ok (.ireturn, 1) := by decide +kernel
theorem dX0_turnSpecks_0 : decode cX0_turnSpecks 0 = .ok (.aload_n 0, 1) := by decide +kernel
theorem dX0_turnSpecks_1 : decode cX0_turnSpecks 1 = .ok (.invokevirtual 201, 3) := by decide +kernel
theorem dX0_turnSpecks_4 : decode cX0_turnSpecks 4 = .ok (.iconst 0, 1) := by decide +kernel
theorem dX0_turnSpecks_5 : decode cX0_turnSpecks 5 = .ok (.istore_n 3, 1) := by decide +kernel
theorem dX0_turnSpecks_6 : decode cX0_turnSpecks 6 = .ok (.iconst 0, 1) := by decide +kernel
theorem dX0_turnSpecks_7 : decode cX0_turnSpecks 7 = .ok (.istore 4, 2) := by decide +kernel
theorem dX0_turnSpecks_9 : decode cX0_turnSpecks 9 = .ok (.iload 4, 2) := by decide +kernel
theorem dX0_turnSpecks_11 : decode cX0_turnSpecks 11 = .ok (.aload_n 0, 1) := by decide +kernel
theorem dX0_turnSpecks_12 : decode cX0_turnSpecks 12 = .ok (.getfield 20, 3) := by decide +kernel
theorem dX0_turnSpecks_15 : decode cX0_turnSpecks 15 = .ok (.if_icmp .ge 62, 3) := by decide +kernel
theorem dX0_turnSpecks_18 : decode cX0_turnSpecks 18 = .ok (.aload_n 0, 1) := by decide +kernel
theorem dX0_turnSpecks_19 : decode cX0_turnSpecks 19 = .ok (.getfield 27, 3) := by decide +kernel
theorem dX0_turnSpecks_22 : decode cX0_turnSpecks 22 = .ok (.iload 4, 2) := by decide +kernel
theorem dX0_turnSpecks_24 : decode cX0_turnSpecks 24 = .ok (.baload, 1) := by decide +kernel
theorem dX0_turnSpecks_25 : decode cX0_turnSpecks 25 = .ok (.iload_n 1, 1) := by decide +kernel
theorem dX0_turnSpecks_26 : decode cX0_turnSpecks 26 = .ok (.if_icmp .ne 45, 3) := by decide +kernel
theorem dX0_turnSpecks_29 : decode cX0_turnSpecks 29 = .ok (.aload_n 0, 1) := by decide +kernel
theorem dX0_turnSpecks_30 : decode cX0_turnSpecks 30 = .ok (.getfield 44, 3) := by decide +kernel
theorem dX0_turnSpecks_33 : decode cX0_turnSpecks 33 = .ok (.iload 4, 2) := by decide +kernel
theorem dX0_turnSpecks_35 : decode cX0_turnSpecks 35 = .ok (.baload, 1) := by decide +kernel
theorem dX0_turnSpecks_36 : decode cX0_turnSpecks 36 = .ok (.ifCond .ne 35, 3) := by decide +kernel
theorem dX0_turnSpecks_39 : decode cX0_turnSpecks 39 = .ok (.aload_n 0, 1) := by decide +kernel
theorem dX0_turnSpecks_40 : decode cX0_turnSpecks 40 = .ok (.iload 4, 2) := by decide +kernel
theorem dX0_turnSpecks_42 : decode cX0_turnSpecks 42 = .ok (.iload_n 1, 1) := by decide +kernel
theorem dX0_turnSpecks_43 : decode cX0_turnSpecks 43 = .ok (.invokevirtual 204, 3) := by decide +kernel
theorem dX0_turnSpecks_46 : decode cX0_turnSpecks 46 = .ok (.aload_n 0, 1) := by decide +kernel
theorem dX0_turnSpecks_47 : decode cX0_turnSpecks 47 = .ok (.iload_n 1, 1) := by decide +kernel
theorem dX0_turnSpecks_48 : decode cX0_turnSpecks 48 = .ok (.iload_n 2, 1) := by decide +kernel
theorem dX0_turnSpecks_49 : decode cX0_turnSpecks 49 = .ok (.invokevirtual 208, 3) := by decide +kernel
theorem dX0_turnSpecks_52 : decode cX0_turnSpecks 52 = .ok (.ifCond .eq 19, 3) := by decide +kernel
theorem dX0_turnSpecks_55 : decode cX0_turnSpecks 55 = .ok (.iload_n 3, 1) := by decide +kernel
theorem dX0_turnSpecks_56 : decode cX0_turnSpecks 56 = .ok (.aload_n 0, 1) := by decide +kernel
theorem dX0_turnSpecks_57 : decode cX0_turnSpecks 57 = .ok (.iload_n 1, 1) := by decide +kernel
theorem dX0_turnSpecks_58 : decode cX0_turnSpecks 58 = .ok (.ifCond .ne 7, 3) := by decide +kernel
theorem dX0_turnSpecks_61 : decode cX0_turnSpecks 61 = .ok (.iconst 1, 1) := by decide +kernel
theorem dX0_turnSpecks_62 : decode cX0_turnSpecks 62 = .ok (.goto 4, 3) := by decide +kernel
theorem dX0_turnSpecks_65 : decode cX0_turnSpecks 65 = .ok (.iconst 0, 1) := by decide +kernel
theorem dX0_turnSpecks_66 : decode cX0_turnSpecks 66 = .ok (.invokevirtual 212, 3) := by decide +kernel
theorem dX0_turnSpecks_69 : decode cX0_turnSpecks 69 = .ok (.iadd, 1) := by decide +kernel
theorem dX0_turnSpecks_70 : decode cX0_turnSpecks 70 = .ok (.istore_n 3, 1) := by decide +kernel
theorem dX0_turnSpecks_71 : decode cX0_turnSpecks 71 = .ok (.iinc 4 1, 3) := by decide +kernel
theorem dX0_turnSpecks_74 : decode cX0_turnSpecks 74 = .ok (.goto (-65), 3) := by decide +kernel
theorem dX0_turnSpecks_77 : decode cX0_turnSpecks 77 = .ok (.iload_n 3, 1) := by decide +kernel
theorem dX0_turnSpecks_78 : decode cX0_turnSpecks 78 = .ok (.ireturn, 1) := by decide +kernel
theorem dX0_isSpeck_0 : decode cX0_isSpeck 0 = .ok (.aload_n 0, 1) := by decide +kernel
theorem dX0_isSpeck_1 : decode cX0_isSpeck 1 = .ok (.getfield 121, 3) := by decide +kernel
theorem dX0_isSpeck_4 : decode cX0_isSpeck 4 = .ok (.iload_n 2, 1) := by decide +kernel
theorem dX0_isSpeck_5 : decode cX0_isSpeck 5 = .ok (.if_icmp .gt 18, 3) := by decide +kernel
theorem dX0_isSpeck_8 : decode cX0_isSpeck 8 = .ok (.iload_n 1, 1) := by decide +kernel
theorem dX0_isSpeck_9 : decode cX0_isSpeck 9 = .ok (.ifCond .ne 10, 3) := by decide +kernel
theorem dX0_isSpeck_12 : decode cX0_isSpeck 12 = .ok (.aload_n 0, 1) := by decide +kernel
theorem dX0_isSpeck_13 : decode cX0_isSpeck 13 = .ok (.invokevirtual 216, 3) := by decide +kernel
theorem dX0_isSpeck_16 : decode cX0_isSpeck 16 = .ok (.ifCond .ne 7, 3) := by decide +kernel
theorem dX0_isSpeck_19 : decode cX0_isSpeck 19 = .ok (.iconst 1, 1) := by decide +kernel
theorem dX0_isSpeck_20 : decode cX0_isSpeck 20 = .ok (.goto 4, 3) := by decide +kernel
theorem dX0_isSpeck_23 : decode cX0_isSpeck 23 = .ok (.iconst 0, 1) := by decide +kernel
theorem dX0_isSpeck_24 : decode cX0_isSpeck 24 = .ok (.ireturn, 1) := by decide +kernel
theorem dX0_queuedComeToEdge_0 : decode cX0_queuedComeToEdge 0 = .ok (.iconst 0, 1) := by decide +kernel
theorem dX0_queuedComeToEdge_1 : decode cX0_queuedComeToEdge 1 = .ok (.istore_n 1, 1) := by decide +kernel
theorem dX0_queuedComeToEdge_2 : decode cX0_queuedComeToEdge 2 = .ok (.iload_n 1, 1) := by decide +kernel
theorem dX0_queuedComeToEdge_3 : decode cX0_queuedComeToEdge 3 = .ok (.aload_n 0, 1) := by decide +kernel
theorem dX0_queuedComeToEdge_4 : decode cX0_queuedComeToEdge 4 = .ok (.getfield 20, 3) := by decide +kernel
theorem dX0_queuedComeToEdge_7 : decode cX0_queuedComeToEdge 7 = .ok (.if_icmp .ge 69, 3) := by decide +kernel
theorem dX0_queuedComeToEdge_10 : decode cX0_queuedComeToEdge 10 = .ok (.iload_n 1, 1) := by decide +kernel
theorem dX0_queuedComeToEdge_11 : decode cX0_queuedComeToEdge 11 = .ok (.aload_n 0, 1) := by decide +kernel
theorem dX0_queuedComeToEdge_12 : decode cX0_queuedComeToEdge 12 = .ok (.getfield 121, 3) := by decide +kernel
theorem dX0_queuedComeToEdge_15 : decode cX0_queuedComeToEdge 15 = .ok (.if_icmp .ge 61, 3) := by decide +kernel
theorem dX0_queuedComeToEdge_18 : decode cX0_queuedComeToEdge 18 = .ok (.aload_n 0, 1) := by decide +kernel
theorem dX0_queuedComeToEdge_19 : decode cX0_queuedComeToEdge 19 = .ok (.aload_n 0, 1) := by decide +kernel
theorem dX0_queuedComeToEdge_20 : decode cX0_queuedComeToEdge 20 = .ok (.getfield 47, 3) := by decide +kernel
theorem dX0_queuedComeToEdge_23 : decode cX0_queuedComeToEdge 23 = .ok (.iload_n 1, 1) := by decide +kernel
theorem dX0_queuedComeToEdge_24 : decode cX0_queuedComeToEdge 24 = .ok (.iaload, 1) := by decide +kernel
theorem dX0_queuedComeToEdge_25 : decode cX0_queuedComeToEdge 25 = .ok (.invokevirtual 128, 3) := by decide +kernel
theorem dX0_queuedComeToEdge_28 : decode cX0_queuedComeToEdge 28 = .ok (.istore_n 2, 1) := by decide +kernel
theorem dX0_queuedComeToEdge_29 : decode cX0_queuedComeToEdge 29 = .ok (.aload_n 0, 1) := by decide +kernel
theorem dX0_queuedComeToEdge_30 : decode cX0_queuedComeToEdge 30 = .ok (.aload_n 0, 1) := by decide +kernel
theorem dX0_queuedComeToEdge_31 : decode cX0_queuedComeToEdge 31 = .ok (.getfield 47, 3) := by decide +kernel
theorem dX0_queuedComeToEdge_34 : decode cX0_queuedComeToEdge 34 = .ok (.iload_n 1, 1) := by decide +kernel
theorem dX0_queuedComeToEdge_35 : decode cX0_queuedComeToEdge 35 = .ok (.iaload, 1) := by decide +kernel
theorem dX0_queuedComeToEdge_36 : decode cX0_queuedComeToEdge 36 = .ok (.invokevirtual 131, 3) := by decide +kernel
theorem dX0_queuedComeToEdge_39 : decode cX0_queuedComeToEdge 39 = .ok (.istore_n 3, 1) := by decide +kernel
theorem dX0_queuedComeToEdge_40 : decode cX0_queuedComeToEdge 40 = .ok (.iload_n 2, 1) := by decide +kernel
theorem dX0_queuedComeToEdge_41 : decode cX0_queuedComeToEdge 41 = .ok (.ifCond .eq 27, 3) := by decide +kernel
theorem dX0_queuedComeToEdge_44 : decode cX0_queuedComeToEdge 44 = .ok (.iload_n 3, 1) := by decide +kernel
theorem dX0_queuedComeToEdge_45 : decode cX0_queuedComeToEdge 45 = .ok (.ifCond .eq 23, 3) := by decide +kernel
theorem dX0_queuedComeToEdge_48 : decode cX0_queuedComeToEdge 48 = .ok (.iload_n 2, 1) := by decide +kernel
theorem dX0_queuedComeToEdge_49 : decode cX0_queuedComeToEdge 49 = .ok (.aload_n 0, 1) := by decide +kernel
theorem dX0_queuedComeToEdge_50 : decode cX0_queuedComeToEdge 50 = .ok (.getfield 13, 3) := by decide +kernel
theorem dX0_queuedComeToEdge_53 : decode cX0_queuedComeToEdge 53 = .ok (.iconst 1, 1) := by decide +kernel
theorem dX0_queuedComeToEdge_54 : decode cX0_queuedComeToEdge 54 = .ok (.isub, 1) := by decide +kernel
theorem dX0_queuedComeToEdge_55 : decode cX0_queuedComeToEdge 55 = .ok (.if_icmp .eq 13, 3) := by decide +kernel
theorem dX0_queuedComeToEdge_58 : decode cX0_queuedComeToEdge 58 = .ok (.iload_n 3, 1) := by decide +kernel
theorem dX0_queuedComeToEdge_59 : decode cX0_queuedComeToEdge 59 = .ok (.aload_n 0, 1) := by decide +kernel
theorem dX0_queuedComeToEdge_60 : decode cX0_queuedComeToEdge 60 = .ok (.getfield 17, 3) := by decide +kernel
theorem dX0_queuedComeToEdge_63 : decode cX0_queuedComeToEdge 63 = .ok (.iconst 1, 1) := by decide +kernel
theorem dX0_queuedComeToEdge_64 : decode cX0_queuedComeToEdge 64 = .ok (.isub, 1) := by decide +kernel
theorem dX0_queuedComeToEdge_65 : decode cX0_queuedComeToEdge 65 = .ok (.if_icmp .ne 5, 3) := by decide +kernel
theorem dX0_queuedComeToEdge_68 : decode cX0_queuedComeToEdge 68 = .ok (.iconst 1, 1) := by decide +kernel
theorem dX0_queuedComeToEdge_69 : decode cX0_queuedComeToEdge 69 = .ok (.ireturn, 1) := by decide +kernel
theorem dX0_queuedComeToEdge_70 : decode cX0_queuedComeToEdge 70 = .ok (.iinc 1 1, 3) := by decide +kernel
theorem dX0_queuedComeToEdge_73 : decode cX0_queuedComeToEdge 73 = .ok (.goto (-71), 3) := by decide +kernel
theorem dX0_queuedComeToEdge_76 : decode cX0_queuedComeToEdge 76 = .ok (.iconst 0, 1) := by decide +kernel
theorem dX0_queuedComeToEdge_77 : decode cX0_queuedComeToEdge 77 = .ok (.ireturn, 1) := by decide +kernel
theorem dX0_turnQueued_0 : decode cX0_turnQueued 0 = .ok (.iconst 0, 1) := by decide +kernel
theorem dX0_turnQueued_1 : decode cX0_turnQueued 1 = .ok (.istore_n 2, 1) := by decide +kernel
theorem dX0_turnQueued_2 : decode cX0_turnQueued 2 = .ok (.iload_n 2, 1) := by decide +kernel
theorem dX0_turnQueued_3 : decode cX0_turnQueued 3 = .ok (.aload_n 0, 1) := by decide +kernel
theorem dX0_turnQueued_4 : decode cX0_turnQueued 4 = .ok (.getfield 20, 3) := by decide +kernel
theorem dX0_turnQueued_7 : decode cX0_turnQueued 7 = .ok (.if_icmp .ge 29, 3) := by decide +kernel
theorem dX0_turnQueued_10 : decode cX0_turnQueued 10 = .ok (.iload_n 2, 1) := by decide +kernel
theorem dX0_turnQueued_11 : decode cX0_turnQueued 11 = .ok (.aload_n 0, 1) := by decide +kernel
theorem dX0_turnQueued_12 : decode cX0_turnQueued 12 = .ok (.getfield 121, 3) := by decide +kernel
theorem dX0_turnQueued_15 : decode cX0_turnQueued 15 = .ok (.if_icmp .ge 21, 3) := by decide +kernel
theorem dX0_turnQueued_18 : decode cX0_turnQueued 18 = .ok (.aload_n 0, 1) := by decide +kernel
theorem dX0_turnQueued_19 : decode cX0_turnQueued 19 = .ok (.getfield 27, 3) := by decide +kernel
theorem dX0_turnQueued_22 : decode cX0_turnQueued 22 = .ok (.aload_n 0, 1) := by decide +kernel
theorem dX0_turnQueued_23 : decode cX0_turnQueued 23 = .ok (.getfield 47, 3) := by decide +kernel
theorem dX0_turnQueued_26 : decode cX0_turnQueued 26 = .ok (.iload_n 2, 1) := by decide +kernel
theorem dX0_turnQueued_27 : decode cX0_turnQueued 27 = .ok (.iaload, 1) := by decide +kernel
theorem dX0_turnQueued_28 : decode cX0_turnQueued 28 = .ok (.iload_n 1, 1) := by decide +kernel
theorem dX0_turnQueued_29 : decode cX0_turnQueued 29 = .ok (.bastore, 1) := by decide +kernel
theorem dX0_turnQueued_30 : decode cX0_turnQueued 30 = .ok (.iinc 2 1, 3) := by decide +kernel
theorem dX0_turnQueued_33 : decode cX0_turnQueued 33 = .ok (.goto (-31), 3) := by decide +kernel
theorem dX0_turnQueued_36 : decode cX0_turnQueued 36 = .ok (.aload_n 0, 1) := by decide +kernel
theorem dX0_turnQueued_37 : decode cX0_turnQueued 37 = .ok (.getfield 121, 3) := by decide +kernel
theorem dX0_turnQueued_40 : decode cX0_turnQueued 40 = .ok (.ireturn, 1) := by decide +kernel
theorem dX0_isEdge_0 : decode cX0_isEdge 0 = .ok (.aload_n 0, 1) := by decide +kernel
theorem dX0_isEdge_1 : decode cX0_isEdge 1 = .ok (.iload_n 1, 1) := by decide +kernel
theorem dX0_isEdge_2 : decode cX0_isEdge 2 = .ok (.iload_n 2, 1) := by decide +kernel
theorem dX0_isEdge_3 : decode cX0_isEdge 3 = .ok (.invokevirtual 220, 3) := by decide +kernel
theorem dX0_isEdge_6 : decode cX0_isEdge 6 = .ok (.ifCond .eq 51, 3) := by decide +kernel
theorem dX0_isEdge_9 : decode cX0_isEdge 9 = .ok (.aload_n 0, 1) := by decide +kernel
theorem dX0_isEdge_10 : decode cX0_isEdge 10 = .ok (.iload_n 1, 1) := by decide +kernel
theorem dX0_isEdge_11 : decode cX0_isEdge 11 = .ok (.iconst 1, 1) := by decide +kernel
theorem dX0_isEdge_12 : decode cX0_isEdge 12 = .ok (.isub, 1) := by decide +kernel
theorem dX0_isEdge_13 : decode cX0_isEdge 13 = .ok (.iload_n 2, 1) := by decide +kernel
theorem dX0_isEdge_14 : decode cX0_isEdge 14 = .ok (.invokevirtual 220, 3) := by decide +kernel
theorem dX0_isEdge_17 : decode cX0_isEdge 17 = .ok (.ifCond .eq 36, 3) := by decide +kernel
theorem dX0_isEdge_20 : decode cX0_isEdge 20 = .ok (.aload_n 0, 1) := by decide +kernel
theorem dX0_isEdge_21 : decode cX0_isEdge 21 = .ok (.iload_n 1, 1) := by decide +kernel
theorem dX0_isEdge_22 : decode cX0_isEdge 22 = .ok (.iconst 1, 1) := by decide +kernel
theorem dX0_isEdge_23 : decode cX0_isEdge 23 = .ok (.iadd, 1) := by decide +kernel
theorem dX0_isEdge_24 : decode cX0_isEdge 24 = .ok (.iload_n 2, 1) := by decide +kernel
theorem dX0_isEdge_25 : decode cX0_isEdge 25 = .ok (.invokevirtual 220, 3) := by decide +kernel
theorem dX0_isEdge_28 : decode cX0_isEdge 28 = .ok (.ifCond .eq 25, 3) := by decide +kernel
theorem dX0_isEdge_31 : decode cX0_isEdge 31 = .ok (.aload_n 0, 1) := by decide +kernel
theorem dX0_isEdge_32 : decode cX0_isEdge 32 = .ok (.iload_n 1, 1) := by decide +kernel
theorem dX0_isEdge_33 : decode cX0_isEdge 33 = .ok (.iload_n 2, 1) := by decide +kernel
theorem dX0_isEdge_34 : decode cX0_isEdge 34 = .ok (.iconst 1, 1) := by decide +kernel
theorem dX0_isEdge_35 : decode cX0_isEdge 35 = .ok (.isub, 1) := by decide +kernel
theorem dX0_isEdge_36 : decode cX0_isEdge 36 = .ok (.invokevirtual 220, 3) := by decide +kernel
theorem dX0_isEdge_39 : decode cX0_isEdge 39 = .ok (.ifCond .eq 14, 3) := by decide +kernel
theorem dX0_isEdge_42 : decode cX0_isEdge 42 = .ok (.aload_n 0, 1) := by decide +kernel
theorem dX0_isEdge_43 : decode cX0_isEdge 43 = .ok (.iload_n 1, 1) := by decide +kernel
theorem dX0_isEdge_44 : decode cX0_isEdge 44 = .ok (.iload_n 2, 1) := by decide +kernel
theorem dX0_isEdge_45 : decode cX0_isEdge 45 = .ok (.iconst 1, 1) := by decide +kernel
theorem dX0_isEdge_46 : decode cX0_isEdge 46 = .ok (.iadd, 1) := by decide +kernel
theorem dX0_isEdge_47 : decode cX0_isEdge 47 = .ok (.invokevirtual 220, 3) := by decide +kernel
theorem dX0_isEdge_50 : decode cX0_isEdge 50 = .ok (.ifCond .ne 7, 3) := by decide +kernel
theorem dX0_isEdge_53 : decode cX0_isEdge 53 = .ok (.iconst 1, 1) := by decide +kernel
theorem dX0_isEdge_54 : decode cX0_isEdge 54 = .ok (.goto 4, 3) := by decide +kernel
theorem dX0_isEdge_57 : decode cX0_isEdge 57 = .ok (.iconst 0, 1) := by decide +kernel
theorem dX0_isEdge_58 : decode cX0_isEdge 58 = .ok (.ireturn, 1) := by decide +kernel
theorem dX0_isBlack_0 : decode cX0_isBlack 0 = .ok (.aload_n 0, 1) := by decide +kernel
theorem dX0_isBlack_1 : decode cX0_isBlack 1 = .ok (.iload_n 1, 1) := by decide +kernel
theorem dX0_isBlack_2 : decode cX0_isBlack 2 = .ok (.iload_n 2, 1) := by decide +kernel
theorem dX0_isBlack_3 : decode cX0_isBlack 3 = .ok (.invokevirtual 50, 3) := by decide +kernel
theorem dX0_isBlack_6 : decode cX0_isBlack 6 = .ok (.ifCond .eq 21, 3) := by decide +kernel
theorem dX0_isBlack_9 : decode cX0_isBlack 9 = .ok (.aload_n 0, 1) := by decide +kernel
theorem dX0_isBlack_10 : decode cX0_isBlack 10 = .ok (.getfield 27, 3) := by decide +kernel
theorem dX0_isBlack_13 : decode cX0_isBlack 13 = .ok (.aload_n 0, 1) := by decide +kernel
theorem dX0_isBlack_14 : decode cX0_isBlack 14 = .ok (.iload_n 1, 1) := by decide +kernel
theorem dX0_isBlack_15 : decode cX0_isBlack 15 = .ok (.iload_n 2, 1) := by decide +kernel
theorem dX0_isBlack_16 : decode cX0_isBlack 16 = .ok (.invokevirtual 66, 3) := by decide +kernel
theorem dX0_isBlack_19 : decode cX0_isBlack 19 = .ok (.baload, 1) := by decide +kernel
theorem dX0_isBlack_20 : decode cX0_isBlack 20 = .ok (.ifCond .eq 7, 3) := by decide +kernel
theorem dX0_isBlack_23 : decode cX0_isBlack 23 = .ok (.iconst 1, 1) := by decide +kernel
theorem dX0_isBlack_24 : decode cX0_isBlack 24 = .ok (.goto 4, 3) := by decide +kernel
theorem dX0_isBlack_27 : decode cX0_isBlack 27 = .ok (.iconst 0, 1) := by decide +kernel
theorem dX0_isBlack_28 : decode cX0_isBlack 28 = .ok (.ireturn, 1) := by decide +kernel
theorem dJ9_floorMod_7cf53_0 : decode cJ9_floorMod_7cf53 0 = .ok (.iload_n 0, 1) := by decide +kernel
theorem dJ9_floorMod_7cf53_1 : decode cJ9_floorMod_7cf53 1 = .ok (.iload_n 1, 1) := by decide +kernel
theorem dJ9_floorMod_7cf53_2 : decode cJ9_floorMod_7cf53 2 = .ok (.irem, 1) := by decide +kernel
theorem dJ9_floorMod_7cf53_3 : decode cJ9_floorMod_7cf53 3 = .ok (.istore_n 2, 1) := by decide +kernel
theorem dJ9_floorMod_7cf53_4 : decode cJ9_floorMod_7cf53 4 = .ok (.iload_n 0, 1) := by decide +kernel
theorem dJ9_floorMod_7cf53_5 : decode cJ9_floorMod_7cf53 5 = .ok (.iload_n 1, 1) := by decide +kernel
theorem dJ9_floorMod_7cf53_6 : decode cJ9_floorMod_7cf53 6 = .ok (.ixor, 1) := by decide +kernel
theorem dJ9_floorMod_7cf53_7 : decode cJ9_floorMod_7cf53 7 = .ok (.ifCond .ge 11, 3) := by decide +kernel
theorem dJ9_floorMod_7cf53_10 : decode cJ9_floorMod_7cf53 10 = .ok (.iload_n 2, 1) := by decide +kernel
theorem dJ9_floorMod_7cf53_11 : decode cJ9_floorMod_7cf53 11 = .ok (.ifCond .eq 7, 3) := by decide +kernel
theorem dJ9_floorMod_7cf53_14 : decode cJ9_floorMod_7cf53 14 = .ok (.iload_n 2, 1) := by decide +kernel
theorem dJ9_floorMod_7cf53_15 : decode cJ9_floorMod_7cf53 15 = .ok (.iload_n 1, 1) := by decide +kernel
theorem dJ9_floorMod_7cf53_16 : decode cJ9_floorMod_7cf53 16 = .ok (.iadd, 1) := by decide +kernel
theorem dJ9_floorMod_7cf53_17 : decode cJ9_floorMod_7cf53 17 = .ok (.ireturn, 1) := by decide +kernel
theorem dJ9_floorMod_7cf53_18 : decode cJ9_floorMod_7cf53 18 = .ok (.iload_n 2, 1) := by decide +kernel
theorem dJ9_floorMod_7cf53_19 : decode cJ9_floorMod_7cf53 19 = .ok (.ireturn, 1) := by decide +kernel
theorem dJ9_max_7cf53_0 : decode cJ9_max_7cf53 0 = .ok (.iload_n 0, 1) := by decide +kernel
theorem dJ9_max_7cf53_1 : decode cJ9_max_7cf53 1 = .ok (.iload_n 1, 1) := by decide +kernel
theorem dJ9_max_7cf53_2 : decode cJ9_max_7cf53 2 = .ok (.if_icmp .lt 7, 3) := by decide +kernel
theorem dJ9_max_7cf53_5 : decode cJ9_max_7cf53 5 = .ok (.iload_n 0, 1) := by decide +kernel
theorem dJ9_max_7cf53_6 : decode cJ9_max_7cf53 6 = .ok (.goto 4, 3) := by decide +kernel
theorem dJ9_max_7cf53_9 : decode cJ9_max_7cf53 9 = .ok (.iload_n 1, 1) := by decide +kernel
theorem dJ9_max_7cf53_10 : decode cJ9_max_7cf53 10 = .ok (.ireturn, 1) := by decide +kernel
theorem dJ9_min_7cf53_0 : decode cJ9_min_7cf53 0 = .ok (.iload_n 0, 1) := by decide +kernel
theorem dJ9_min_7cf53_1 : decode cJ9_min_7cf53 1 = .ok (.iload_n 1, 1) := by decide +kernel
theorem dJ9_min_7cf53_2 : decode cJ9_min_7cf53 2 = .ok (.if_icmp .gt 7, 3) := by decide +kernel
theorem dJ9_min_7cf53_5 : decode cJ9_min_7cf53 5 = .ok (.iload_n 0, 1) := by decide +kernel
theorem dJ9_min_7cf53_6 : decode cJ9_min_7cf53 6 = .ok (.goto 4, 3) := by decide +kernel
theorem dJ9_min_7cf53_9 : decode cJ9_min_7cf53 9 = .ok (.iload_n 1, 1) := by decide +kernel
theorem dJ9_min_7cf53_10 : decode cJ9_min_7cf53 10 = .ok (.ireturn, 1) := by decide +kernel
theorem dJ7_fill_53178_0 : decode cJ7_fill_53178 0 = .ok (.iconst 0, 1) := by decide +kernel
theorem dJ7_fill_53178_1 : decode cJ7_fill_53178 1 = .ok (.istore_n 2, 1) := by decide +kernel
theorem dJ7_fill_53178_2 : decode cJ7_fill_53178 2 = .ok (.aload_n 0, 1) := by decide +kernel
theorem dJ7_fill_53178_3 : decode cJ7_fill_53178 3 = .ok (.arraylength, 1) := by decide +kernel
theorem dJ7_fill_53178_4 : decode cJ7_fill_53178 4 = .ok (.istore_n 3, 1) := by decide +kernel
theorem dJ7_fill_53178_5 : decode cJ7_fill_53178 5 = .ok (.iload_n 2, 1) := by decide +kernel
theorem dJ7_fill_53178_6 : decode cJ7_fill_53178 6 = .ok (.iload_n 3, 1) := by decide +kernel
theorem dJ7_fill_53178_7 : decode cJ7_fill_53178 7 = .ok (.if_icmp .ge 13, 3) := by decide +kernel
theorem dJ7_fill_53178_10 : decode cJ7_fill_53178 10 = .ok (.aload_n 0, 1) := by decide +kernel
theorem dJ7_fill_53178_11 : decode cJ7_fill_53178 11 = .ok (.iload_n 2, 1) := by decide +kernel
theorem dJ7_fill_53178_12 : decode cJ7_fill_53178 12 = .ok (.iload_n 1, 1) := by decide +kernel
theorem dJ7_fill_53178_13 : decode cJ7_fill_53178 13 = .ok (.iastore, 1) := by decide +kernel
theorem dJ7_fill_53178_14 : decode cJ7_fill_53178 14 = .ok (.iinc 2 1, 3) := by decide +kernel
theorem dJ7_fill_53178_17 : decode cJ7_fill_53178 17 = .ok (.goto (-12), 3) := by decide +kernel
theorem dJ7_fill_53178_20 : decode cJ7_fill_53178 20 = .ok (.return_, 1) := by decide +kernel
end
section
theorem dX1_init_0 : decode cX1_init 0 = .ok (.aload_n 0, 1) := by decide +kernel
theorem dX1_init_1 : decode cX1_init 1 = .ok (.invokespecial 1, 3) := by decide +kernel
theorem dX1_init_4 : decode cX1_init 4 = .ok (.aload_n 0, 1) := by decide +kernel
theorem dX1_init_5 : decode cX1_init 5 = .ok (.sipush 256, 3) := by decide +kernel
theorem dX1_init_8 : decode cX1_init 8 = .ok (.newarray .int, 2) := by decide +kernel
theorem dX1_init_10 : decode cX1_init 10 = .ok (.putfield 7, 3) := by decide +kernel
theorem dX1_init_13 : decode cX1_init 13 = .ok (.aload_n 0, 1) := by decide +kernel
theorem dX1_init_14 : decode cX1_init 14 = .ok (.sipush 256, 3) := by decide +kernel
theorem dX1_init_17 : decode cX1_init 17 = .ok (.newarray .boolean, 2) := by decide +kernel
theorem dX1_init_19 : decode cX1_init 19 = .ok (.putfield 13, 3) := by decide +kernel
theorem dX1_init_22 : decode cX1_init 22 = .ok (.aload_n 0, 1) := by decide +kernel
theorem dX1_init_23 : decode cX1_init 23 = .ok (.sipush 256, 3) := by decide +kernel
theorem dX1_init_26 : decode cX1_init 26 = .ok (.newarray .boolean, 2) := by decide +kernel
theorem dX1_init_28 : decode cX1_init 28 = .ok (.putfield 17, 3) := by decide +kernel
theorem dX1_init_31 : decode cX1_init 31 = .ok (.aload_n 0, 1) := by decide +kernel
theorem dX1_init_32 : decode cX1_init 32 = .ok (.sipush 256, 3) := by decide +kernel
theorem dX1_init_35 : decode cX1_init 35 = .ok (.newarray .int, 2) := by decide +kernel
theorem dX1_init_37 : decode cX1_init 37 = .ok (.putfield 20, 3) := by decide +kernel
theorem dX1_init_40 : decode cX1_init 40 = .ok (.aload_n 0, 1) := by decide +kernel
theorem dX1_init_41 : decode cX1_init 41 = .ok (.sipush 256, 3) := by decide +kernel
theorem dX1_init_44 : decode cX1_init 44 = .ok (.newarray .int, 2) := by decide +kernel
theorem dX1_init_46 : decode cX1_init 46 = .ok (.putfield 23, 3) := by decide +kernel
theorem dX1_init_49 : decode cX1_init 49 = .ok (.aload_n 0, 1) := by decide +kernel
theorem dX1_init_50 : decode cX1_init 50 = .ok (.iload_n 1, 1) := by decide +kernel
theorem dX1_init_51 : decode cX1_init 51 = .ok (.iconst 1, 1) := by decide +kernel
theorem dX1_init_52 : decode cX1_init 52 = .ok (.if_icmp .ge 7, 3) := by decide +kernel
theorem dX1_init_55 : decode cX1_init 55 = .ok (.iconst 1, 1) := by decide +kernel
theorem dX1_init_56 : decode cX1_init 56 = .ok (.goto 15, 3) := by decide +kernel
theorem dX1_init_59 : decode cX1_init 59 = .ok (.iload_n 1, 1) := by decide +kernel
theorem dX1_init_60 : decode cX1_init 60 = .ok (.bipush 16, 2) := by decide +kernel
theorem dX1_init_62 : decode cX1_init 62 = .ok (.if_icmp .le 8, 3) := by decide +kernel
theorem dX1_init_65 : decode cX1_init 65 = .ok (.bipush 16, 2) := by decide +kernel
theorem dX1_init_67 : decode cX1_init 67 = .ok (.goto 4, 3) := by decide +kernel
theorem dX1_init_70 : decode cX1_init 70 = .ok (.iload_n 1, 1) := by decide +kernel
theorem dX1_init_71 : decode cX1_init 71 = .ok (.putfield 26, 3) := by decide +kernel
theorem dX1_init_74 : decode cX1_init 74 = .ok (.aload_n 0, 1) := by decide +kernel
theorem dX1_init_75 : decode cX1_init 75 = .ok (.iload_n 2, 1) := by decide +kernel
theorem dX1_init_76 : decode cX1_init 76 = .ok (.iconst 1, 1) := by decide +kernel
theorem dX1_init_77 : decode cX1_init 77 = .ok (.if_icmp .ge 7, 3) := by decide +kernel
theorem dX1_init_80 : decode cX1_init 80 = .ok (.iconst 1, 1) := by decide +kernel
theorem dX1_init_81 : decode cX1_init 81 = .ok (.goto 15, 3) := by decide +kernel
theorem dX1_init_84 : decode cX1_init 84 = .ok (.iload_n 2, 1) := by decide +kernel
theorem dX1_init_85 : decode cX1_init 85 = .ok (.bipush 16, 2) := by decide +kernel
theorem dX1_init_87 : decode cX1_init 87 = .ok (.if_icmp .le 8, 3) := by decide +kernel
theorem dX1_init_90 : decode cX1_init 90 = .ok (.bipush 16, 2) := by decide +kernel
theorem dX1_init_92 : decode cX1_init 92 = .ok (.goto 4, 3) := by decide +kernel
theorem dX1_init_95 : decode cX1_init 95 = .ok (.iload_n 2, 1) := by decide +kernel
theorem dX1_init_96 : decode cX1_init 96 = .ok (.putfield 30, 3) := by decide +kernel
theorem dX1_init_99 : decode cX1_init 99 = .ok (.return_, 1) := by decide +kernel
theorem dX1_thrown_0 : decode cX1_thrown 0 = .ok (.aload_n 0, 1) := by decide +kernel
theorem dX1_thrown_1 : decode cX1_thrown 1 = .ok (.getfield 33, 3) := by decide +kernel
theorem dX1_thrown_4 : decode cX1_thrown 4 = .ok (.ireturn, 1) := by decide +kernel
theorem dX1_isIn_0 : decode cX1_isIn 0 = .ok (.iload_n 1, 1) := by decide +kernel
theorem dX1_isIn_1 : decode cX1_isIn 1 = .ok (.ifCond .lt 27, 3) := by decide +kernel
theorem dX1_isIn_4 : decode cX1_isIn 4 = .ok (.iload_n 1, 1) := by decide +kernel
theorem dX1_isIn_5 : decode cX1_isIn 5 = .ok (.aload_n 0, 1) := by decide +kernel
theorem dX1_isIn_6 : decode cX1_isIn 6 = .ok (.getfield 26, 3) := by decide +kernel
theorem dX1_isIn_9 : decode cX1_isIn 9 = .ok (.if_icmp .ge 19, 3) := by decide +kernel
theorem dX1_isIn_12 : decode cX1_isIn 12 = .ok (.iload_n 2, 1) := by decide +kernel
theorem dX1_isIn_13 : decode cX1_isIn 13 = .ok (.ifCond .lt 15, 3) := by decide +kernel
theorem dX1_isIn_16 : decode cX1_isIn 16 = .ok (.iload_n 2, 1) := by decide +kernel
theorem dX1_isIn_17 : decode cX1_isIn 17 = .ok (.aload_n 0, 1) := by decide +kernel
theorem dX1_isIn_18 : decode cX1_isIn 18 = .ok (.getfield 30, 3) := by decide +kernel
theorem dX1_isIn_21 : decode cX1_isIn 21 = .ok (.if_icmp .ge 7, 3) := by decide +kernel
theorem dX1_isIn_24 : decode cX1_isIn 24 = .ok (.iconst 1, 1) := by decide +kernel
theorem dX1_isIn_25 : decode cX1_isIn 25 = .ok (.goto 4, 3) := by decide +kernel
theorem dX1_isIn_28 : decode cX1_isIn 28 = .ok (.iconst 0, 1) := by decide +kernel
theorem dX1_isIn_29 : decode cX1_isIn 29 = .ok (.ireturn, 1) := by decide +kernel
theorem dX1_all_0 : decode cX1_all 0 = .ok (.aload_n 0, 1) := by decide +kernel
theorem dX1_all_1 : decode cX1_all 1 = .ok (.getfield 26, 3) := by decide +kernel
theorem dX1_all_4 : decode cX1_all 4 = .ok (.aload_n 0, 1) := by decide +kernel
theorem dX1_all_5 : decode cX1_all 5 = .ok (.getfield 30, 3) := by decide +kernel
theorem dX1_all_8 : decode cX1_all 8 = .ok (.imul, 1) := by decide +kernel
theorem dX1_all_9 : decode cX1_all 9 = .ok (.ireturn, 1) := by decide +kernel
theorem dX1_put_0 : decode cX1_put 0 = .ok (.aload_n 0, 1) := by decide +kernel
theorem dX1_put_1 : decode cX1_put 1 = .ok (.aload_n 0, 1) := by decide +kernel
theorem dX1_put_2 : decode cX1_put 2 = .ok (.iload_n 1, 1) := by decide +kernel
theorem dX1_put_3 : decode cX1_put 3 = .ok (.iload_n 2, 1) := by decide +kernel
theorem dX1_put_4 : decode cX1_put 4 = .ok (.invokevirtual 36, 3) := by decide +kernel
theorem dX1_put_7 : decode cX1_put 7 = .ok (.ifCond .ne 7, 3) := by decide +kernel
theorem dX1_put_10 : decode cX1_put 10 = .ok (.iconst 1, 1) := by decide +kernel
theorem dX1_put_11 : decode cX1_put 11 = .ok (.goto 19, 3) := by decide +kernel
theorem dX1_put_14 : decode cX1_put 14 = .ok (.iload_n 3, 1) := by decide +kernel
theorem dX1_put_15 : decode cX1_put 15 = .ok (.ifCond .lt 10, 3) := by decide +kernel
theorem dX1_put_18 : decode cX1_put 18 = .ok (.iload_n 3, 1) := by decide +kernel
theorem dX1_put_19 : decode cX1_put 19 = .ok (.sipush 255, 3) := by decide +kernel
theorem dX1_put_22 : decode cX1_put 22 = .ok (.if_icmp .le 7, 3) := by decide +kernel
theorem dX1_put_25 : decode cX1_put 25 = .ok (.iconst 2, 1) := by decide +kernel
theorem dX1_put_26 : decode cX1_put 26 = .ok (.goto 4, 3) := by decide +kernel
theorem dX1_put_29 : decode cX1_put 29 = .ok (.iconst 0, 1) := by decide +kernel
theorem dX1_put_30 : decode cX1_put 30 = .ok (.putfield 33, 3) := by decide +kernel
theorem dX1_put_33 : decode cX1_put 33 = .ok (.aload_n 0, 1) := by decide +kernel
theorem dX1_put_34 : decode cX1_put 34 = .ok (.getfield 33, 3) := by decide +kernel
theorem dX1_put_37 : decode cX1_put 37 = .ok (.ifCond .le 5, 3) := by decide +kernel
theorem dX1_put_40 : decode cX1_put 40 = .ok (.iconst 0, 1) := by decide +kernel
theorem dX1_put_41 : decode cX1_put 41 = .ok (.ireturn, 1) := by decide +kernel
theorem dX1_put_42 : decode cX1_put 42 = .ok (.aload_n 0, 1) := by decide +kernel
theorem dX1_put_43 : decode cX1_put 43 = .ok (.getfield 7, 3) := by decide +kernel
theorem dX1_put_46 : decode cX1_put 46 = .ok (.aload_n 0, 1) := by decide +kernel
theorem dX1_put_47 : decode cX1_put 47 = .ok (.getfield 26, 3) := by decide +kernel
theorem dX1_put_50 : decode cX1_put 50 = .ok (.iload_n 2, 1) := by decide +kernel
theorem dX1_put_51 : decode cX1_put 51 = .ok (.imul, 1) := by decide +kernel
theorem dX1_put_52 : decode cX1_put 52 = .ok (.iload_n 1, 1) := by decide +kernel
theorem dX1_put_53 : decode cX1_put 53 = .ok (.iadd, 1) := by decide +kernel
theorem dX1_put_54 : decode cX1_put 54 = .ok (.iaload, 1) := by decide +kernel
theorem dX1_put_55 : decode cX1_put 55 = .ok (.istore 4, 2) := by decide +kernel
theorem dX1_put_57 : decode cX1_put 57 = .ok (.aload_n 0, 1) := by decide +kernel
theorem dX1_put_58 : decode cX1_put 58 = .ok (.getfield 7, 3) := by decide +kernel
theorem dX1_put_61 : decode cX1_put 61 = .ok (.aload_n 0, 1) := by decide +kernel
theorem dX1_put_62 : decode cX1_put 62 = .ok (.getfield 26, 3) := by decide +kernel
theorem dX1_put_65 : decode cX1_put 65 = .ok (.iload_n 2, 1) := by decide +kernel
theorem dX1_put_66 : decode cX1_put 66 = .ok (.imul, 1) := by decide +kernel
theorem dX1_put_67 : decode cX1_put 67 = .ok (.iload_n 1, 1) := by decide +kernel
theorem dX1_put_68 : decode cX1_put 68 = .ok (.iadd, 1) := by decide +kernel
theorem dX1_put_69 : decode cX1_put 69 = .ok (.iload_n 3, 1) := by decide +kernel
theorem dX1_put_70 : decode cX1_put 70 = .ok (.iastore, 1) := by decide +kernel
theorem dX1_put_71 : decode cX1_put 71 = .ok (.iload 4, 2) := by decide +kernel
theorem dX1_put_73 : decode cX1_put 73 = .ok (.ireturn, 1) := by decide +kernel
theorem dX1_paint_0 : decode cX1_paint 0 = .ok (.aload_n 0, 1) := by decide +kernel
theorem dX1_paint_1 : decode cX1_paint 1 = .ok (.iconst 0, 1) := by decide +kernel
theorem dX1_paint_2 : decode cX1_paint 2 = .ok (.putfield 33, 3) := by decide +kernel
theorem dX1_paint_5 : decode cX1_paint 5 = .ok (.iconst 0, 1) := by decide +kernel
theorem dX1_paint_6 : decode cX1_paint 6 = .ok (.istore_n 3, 1) := by decide +kernel
theorem dX1_paint_7 : decode cX1_paint 7 = .ok (.iconst 0, 1) := by decide +kernel
theorem dX1_paint_8 : decode cX1_paint 8 = .ok (.istore 4, 2) := by decide +kernel
theorem dX1_paint_10 : decode cX1_paint 10 = .ok (.iload 4, 2) := by decide +kernel
theorem dX1_paint_12 : decode cX1_paint 12 = .ok (.aload_n 0, 1) := by decide +kernel
theorem dX1_paint_13 : decode cX1_paint 13 = .ok (.invokevirtual 40, 3) := by decide +kernel
theorem dX1_paint_16 : decode cX1_paint 16 = .ok (.if_icmp .ge 50, 3) := by decide +kernel
theorem dX1_paint_19 : decode cX1_paint 19 = .ok (.iload_n 1, 1) := by decide +kernel
theorem dX1_paint_20 : decode cX1_paint 20 = .ok (.iload 4, 2) := by decide +kernel
theorem dX1_paint_22 : decode cX1_paint 22 = .ok (.iload_n 2, 1) := by decide +kernel
theorem dX1_paint_23 : decode cX1_paint 23 = .ok (.imul, 1) := by decide +kernel
theorem dX1_paint_24 : decode cX1_paint 24 = .ok (.iadd, 1) := by decide +kernel
theorem dX1_paint_25 : decode cX1_paint 25 = .ok (.sipush 255, 3) := by decide +kernel
theorem dX1_paint_28 : decode cX1_paint 28 = .ok (.iand, 1) := by decide +kernel
theorem dX1_paint_29 : decode cX1_paint 29 = .ok (.istore 5, 2) := by decide +kernel
theorem dX1_paint_31 : decode cX1_paint 31 = .ok (.aload_n 0, 1) := by decide +kernel
theorem dX1_paint_32 : decode cX1_paint 32 = .ok (.getfield 7, 3) := by decide +kernel
theorem dX1_paint_35 : decode cX1_paint 35 = .ok (.iload 4, 2) := by decide +kernel
theorem dX1_paint_37 : decode cX1_paint 37 = .ok (.iaload, 1) := by decide +kernel
theorem dX1_paint_38 : decode cX1_paint 38 = .ok (.iload 5, 2) := by decide +kernel
theorem dX1_paint_40 : decode cX1_paint 40 = .ok (.if_icmp .eq 9, 3) := by decide +kernel
theorem dX1_paint_43 : decode cX1_paint 43 = .ok (.iload_n 3, 1) := by decide +kernel
theorem dX1_paint_44 : decode cX1_paint 44 = .ok (.iconst 1, 1) := by decide +kernel
theorem dX1_paint_45 : decode cX1_paint 45 = .ok (.iadd, 1) := by decide +kernel
theorem dX1_paint_46 : decode cX1_paint 46 = .ok (.goto 4, 3) := by decide +kernel
theorem dX1_paint_49 : decode cX1_paint 49 = .ok (.iload_n 3, 1) := by decide +kernel
theorem dX1_paint_50 : decode cX1_paint 50 = .ok (.istore_n 3, 1) := by decide +kernel
theorem dX1_paint_51 : decode cX1_paint 51 = .ok (.aload_n 0, 1) := by decide +kernel
theorem dX1_paint_52 : decode cX1_paint 52 = .ok (.getfield 7, 3) := by decide +kernel
theorem dX1_paint_55 : decode cX1_paint 55 = .ok (.iload 4, 2) := by decide +kernel
theorem dX1_paint_57 : decode cX1_paint 57 = .ok (.iload 5, 2) := by decide +kernel
theorem dX1_paint_59 : decode cX1_paint 59 = .ok (.iastore, 1) := by decide +kernel
theorem dX1_paint_60 : decode cX1_paint 60 = .ok (.iinc 4 1, 3) := by decide +kernel
theorem dX1_paint_63 : decode cX1_paint 63 = .ok (.goto (-53), 3) := by decide +kernel
theorem dX1_paint_66 : decode cX1_paint 66 = .ok (.iload_n 3, 1) := by decide +kernel
theorem dX1_paint_67 : decode cX1_paint 67 = .ok (.ireturn, 1) := by decide +kernel
theorem dX1_blacks_0 : decode cX1_blacks 0 = .ok (.iconst 0, 1) := by decide +kernel
theorem dX1_blacks_1 : decode cX1_blacks 1 = .ok (.istore_n 1, 1) := by decide +kernel
theorem dX1_blacks_2 : decode cX1_blacks 2 = .ok (.iconst 0, 1) := by decide +kernel
theorem dX1_blacks_3 : decode cX1_blacks 3 = .ok (.istore_n 2, 1) := by decide +kernel
theorem dX1_blacks_4 : decode cX1_blacks 4 = .ok (.iload_n 2, 1) := by decide +kernel
theorem dX1_blacks_5 : decode cX1_blacks 5 = .ok (.aload_n 0, 1) := by decide +kernel
theorem dX1_blacks_6 : decode cX1_blacks 6 = .ok (.invokevirtual 40, 3) := by decide +kernel
theorem dX1_blacks_9 : decode cX1_blacks 9 = .ok (.if_icmp .ge 26, 3) := by decide +kernel
theorem dX1_blacks_12 : decode cX1_blacks 12 = .ok (.aload_n 0, 1) := by decide +kernel
theorem dX1_blacks_13 : decode cX1_blacks 13 = .ok (.getfield 13, 3) := by decide +kernel
theorem dX1_blacks_16 : decode cX1_blacks 16 = .ok (.iload_n 2, 1) := by decide +kernel
theorem dX1_blacks_17 : decode cX1_blacks 17 = .ok (.baload, 1) := by decide +kernel
theorem dX1_blacks_18 : decode cX1_blacks 18 = .ok (.ifCond .eq 9, 3) := by decide +kernel
theorem dX1_blacks_21 : decode cX1_blacks 21 = .ok (.iload_n 1, 1) := by decide +kernel
theorem dX1_blacks_22 : decode cX1_blacks 22 = .ok (.iconst 1, 1) := by decide +kernel
theorem dX1_blacks_23 : decode cX1_blacks 23 = .ok (.iadd, 1) := by decide +kernel
theorem dX1_blacks_24 : decode cX1_blacks 24 = .ok (.goto 4, 3) := by decide +kernel
theorem dX1_blacks_27 : decode cX1_blacks 27 = .ok (.iload_n 1, 1) := by decide +kernel
theorem dX1_blacks_28 : decode cX1_blacks 28 = .ok (.istore_n 1, 1) := by decide +kernel
theorem dX1_blacks_29 : decode cX1_blacks 29 = .ok (.iinc 2 1, 3) := by decide +kernel
theorem dX1_blacks_32 : decode cX1_blacks 32 = .ok (.goto (-28), 3) := by decide +kernel
theorem dX1_blacks_35 : decode cX1_blacks 35 = .ok (.iload_n 1, 1) := by decide +kernel
theorem dX1_blacks_36 : decode cX1_blacks 36 = .ok (.ireturn, 1) := by decide +kernel
theorem dX1_global_0 : decode cX1_global 0 = .ok (.aload_n 0, 1) := by decide +kernel
theorem dX1_global_1 : decode cX1_global 1 = .ok (.iconst 0, 1) := by decide +kernel
theorem dX1_global_2 : decode cX1_global 2 = .ok (.putfield 33, 3) := by decide +kernel
theorem dX1_global_5 : decode cX1_global 5 = .ok (.aload_n 0, 1) := by decide +kernel
theorem dX1_global_6 : decode cX1_global 6 = .ok (.getfield 7, 3) := by decide +kernel
theorem dX1_global_9 : decode cX1_global 9 = .ok (.iconst 0, 1) := by decide +kernel
theorem dX1_global_10 : decode cX1_global 10 = .ok (.iaload, 1) := by decide +kernel
theorem dX1_global_11 : decode cX1_global 11 = .ok (.iconst 1, 1) := by decide +kernel
theorem dX1_global_12 : decode cX1_global 12 = .ok (.isub, 1) := by decide +kernel
theorem dX1_global_13 : decode cX1_global 13 = .ok (.istore_n 1, 1) := by decide +kernel
theorem dX1_global_14 : decode cX1_global 14 = .ok (.lconst 0, 1) := by decide +kernel
theorem dX1_global_15 : decode cX1_global 15 = .ok (.lstore_n 2, 1) := by decide +kernel
theorem dX1_global_16 : decode cX1_global 16 = .ok (.lconst 0, 1) := by decide +kernel
theorem dX1_global_17 : decode cX1_global 17 = .ok (.lstore 4, 2) := by decide +kernel
theorem dX1_global_19 : decode cX1_global 19 = .ok (.iconst 0, 1) := by decide +kernel
theorem dX1_global_20 : decode cX1_global 20 = .ok (.istore 6, 2) := by decide +kernel
theorem dX1_global_22 : decode cX1_global 22 = .ok (.iload 6, 2) := by decide +kernel
theorem dX1_global_24 : decode cX1_global 24 = .ok (.sipush 255, 3) := by decide +kernel
theorem dX1_global_27 : decode cX1_global 27 = .ok (.if_icmp .ge 198, 3) := by decide +kernel
theorem dX1_global_30 : decode cX1_global 30 = .ok (.lconst 0, 1) := by decide +kernel
theorem dX1_global_31 : decode cX1_global 31 = .ok (.lstore 7, 2) := by decide +kernel
theorem dX1_global_33 : decode cX1_global 33 = .ok (.lconst 0, 1) := by decide +kernel
theorem dX1_global_34 : decode cX1_global 34 = .ok (.lstore 9, 2) := by decide +kernel
theorem dX1_global_36 : decode cX1_global 36 = .ok (.lconst 0, 1) := by decide +kernel
theorem dX1_global_37 : decode cX1_global 37 = .ok (.lstore 11, 2) := by decide +kernel
theorem dX1_global_39 : decode cX1_global 39 = .ok (.iconst 0, 1) := by decide +kernel
theorem dX1_global_40 : decode cX1_global 40 = .ok (.istore 13, 2) := by decide +kernel
theorem dX1_global_42 : decode cX1_global 42 = .ok (.iload 13, 2) := by decide +kernel
theorem dX1_global_44 : decode cX1_global 44 = .ok (.aload_n 0, 1) := by decide +kernel
theorem dX1_global_45 : decode cX1_global 45 = .ok (.invokevirtual 40, 3) := by decide +kernel
theorem dX1_global_48 : decode cX1_global 48 = .ok (.if_icmp .ge 92, 3) := by decide +kernel
theorem dX1_global_51 : decode cX1_global 51 = .ok (.aload_n 0, 1) := by decide +kernel
theorem dX1_global_52 : decode cX1_global 52 = .ok (.getfield 7, 3) := by decide +kernel
theorem dX1_global_55 : decode cX1_global 55 = .ok (.iload 13, 2) := by decide +kernel
theorem dX1_global_57 : decode cX1_global 57 = .ok (.iaload, 1) := by decide +kernel
theorem dX1_global_58 : decode cX1_global 58 = .ok (.iload 6, 2) := by decide +kernel
theorem dX1_global_60 : decode cX1_global 60 = .ok (.if_icmp .gt 10, 3) := by decide +kernel
theorem dX1_global_63 : decode cX1_global 63 = .ok (.lload 7, 2) := by decide +kernel
theorem dX1_global_65 : decode cX1_global 65 = .ok (.lconst 1, 1) := by decide +kernel
theorem dX1_global_66 : decode cX1_global 66 = .ok (.ladd, 1) := by decide +kernel
theorem dX1_global_67 : decode cX1_global 67 = .ok (.goto 5, 3) := by decide +kernel
theorem dX1_global_70 : decode cX1_global 70 = .ok (.lload 7, 2) := by decide +kernel
theorem dX1_global_72 : decode cX1_global 72 = .ok (.lstore 7, 2) := by decide +kernel
theorem dX1_global_74 : decode cX1_global 74 = .ok (.aload_n 0, 1) := by decide +kernel
theorem dX1_global_75 : decode cX1_global 75 = .ok (.getfield 7, 3) := by decide +kernel
theorem dX1_global_78 : decode cX1_global 78 = .ok (.iload 13, 2) := by decide +kernel
theorem dX1_global_80 : decode cX1_global 80 = .ok (.iaload, 1) := by decide +kernel
theorem dX1_global_81 : decode cX1_global 81 = .ok (.iload 6, 2) := by decide +kernel
theorem dX1_global_83 : decode cX1_global 83 = .ok (.if_icmp .gt 17, 3) := by decide +kernel
theorem dX1_global_86 : decode cX1_global 86 = .ok (.lload 9, 2) := by decide +kernel
theorem dX1_global_88 : decode cX1_global 88 = .ok (.aload_n 0, 1) := by decide +kernel
theorem dX1_global_89 : decode cX1_global 89 = .ok (.getfield 7, 3) := by decide +kernel
theorem dX1_global_92 : decode cX1_global 92 = .ok (.iload 13, 2) := by decide +kernel
theorem dX1_global_94 : decode cX1_global 94 = .ok (.iaload, 1) := by decide +kernel
theorem dX1_global_95 : decode cX1_global 95 = .ok (.i2l, 1) := by decide +kernel
theorem dX1_global_96 : decode cX1_global 96 = .ok (.ladd, 1) := by decide +kernel
theorem dX1_global_97 : decode cX1_global 97 = .ok (.goto 5, 3) := by decide +kernel
theorem dX1_global_100 : decode cX1_global 100 = .ok (.lload 9, 2) := by decide +kernel
theorem dX1_global_102 : decode cX1_global 102 = .ok (.lstore 9, 2) := by decide +kernel
theorem dX1_global_104 : decode cX1_global 104 = .ok (.aload_n 0, 1) := by decide +kernel
theorem dX1_global_105 : decode cX1_global 105 = .ok (.getfield 7, 3) := by decide +kernel
theorem dX1_global_108 : decode cX1_global 108 = .ok (.iload 13, 2) := by decide +kernel
theorem dX1_global_110 : decode cX1_global 110 = .ok (.iaload, 1) := by decide +kernel
theorem dX1_global_111 : decode cX1_global 111 = .ok (.iload 6, 2) := by decide +kernel
theorem dX1_global_113 : decode cX1_global 113 = .ok (.if_icmp .gt 8, 3) := by decide +kernel
theorem dX1_global_116 : decode cX1_global 116 = .ok (.lload 11, 2) := by decide +kernel
theorem dX1_global_118 : decode cX1_global 118 = .ok (.goto 14, 3) := by decide +kernel
theorem dX1_global_121 : decode cX1_global 121 = .ok (.lload 11, 2) := by decide +kernel
theorem dX1_global_123 : decode cX1_global 123 = .ok (.aload_n 0, 1) := by decide +kernel
theorem dX1_global_124 : decode cX1_global 124 = .ok (.getfield 7, 3) := by decide +kernel
theorem dX1_global_127 : decode cX1_global 127 = .ok (.iload 13, 2) := by decide +kernel
theorem dX1_global_129 : decode cX1_global 129 = .ok (.iaload, 1) := by decide +kernel
theorem dX1_global_130 : decode cX1_global 130 = .ok (.i2l, 1) := by decide +kernel
theorem dX1_global_131 : decode cX1_global 131 = .ok (.ladd, 1) := by decide +kernel
theorem dX1_global_132 : decode cX1_global 132 = .ok (.lstore 11, 2) := by decide +kernel
theorem dX1_global_134 : decode cX1_global 134 = .ok (.iinc 13 1, 3) := by decide +kernel
theorem dX1_global_137 : decode cX1_global 137 = .ok (.goto (-95), 3) := by decide +kernel
theorem dX1_global_140 : decode cX1_global 140 = .ok (.aload_n 0, 1) := by decide +kernel
theorem dX1_global_141 : decode cX1_global 141 = .ok (.invokevirtual 40, 3) := by decide +kernel
theorem dX1_global_144 : decode cX1_global 144 = .ok (.i2l, 1) := by decide +kernel
theorem dX1_global_145 : decode cX1_global 145 = .ok (.lload 7, 2) := by decide +kernel
theorem dX1_global_147 : decode cX1_global 147 = .ok (.lsub, 1) := by decide +kernel
theorem dX1_global_148 : decode cX1_global 148 = .ok (.lstore 13, 2) := by decide +kernel
theorem dX1_global_150 : decode cX1_global 150 = .ok (.lload 9, 2) := by decide +kernel
theorem dX1_global_152 : decode cX1_global 152 = .ok (.lload 13, 2) := by decide +kernel
theorem dX1_global_154 : decode cX1_global 154 = .ok (.lmul, 1) := by decide +kernel
theorem dX1_global_155 : decode cX1_global 155 = .ok (.lload 11, 2) := by decide +kernel
theorem dX1_global_157 : decode cX1_global 157 = .ok (.lload 7, 2) := by decide +kernel
theorem dX1_global_159 : decode cX1_global 159 = .ok (.lmul, 1) := by decide +kernel
theorem dX1_global_160 : decode cX1_global 160 = .ok (.lsub, 1) := by decide +kernel
theorem dX1_global_161 : decode cX1_global 161 = .ok (.lstore 15, 2) := by decide +kernel
theorem dX1_global_163 : decode cX1_global 163 = .ok (.lload 7, 2) := by decide +kernel
theorem dX1_global_165 : decode cX1_global 165 = .ok (.lconst 0, 1) := by decide +kernel
theorem dX1_global_166 : decode cX1_global 166 = .ok (.lcmp, 1) := by decide +kernel
theorem dX1_global_167 : decode cX1_global 167 = .ok (.ifCond .le 52, 3) := by decide +kernel
theorem dX1_global_170 : decode cX1_global 170 = .ok (.lload 13, 2) := by decide +kernel
theorem dX1_global_172 : decode cX1_global 172 = .ok (.lconst 0, 1) := by decide +kernel
theorem dX1_global_173 : decode cX1_global 173 = .ok (.lcmp, 1) := by decide +kernel
theorem dX1_global_174 : decode cX1_global 174 = .ok (.ifCond .le 45, 3) := by decide +kernel
theorem dX1_global_177 : decode cX1_global 177 = .ok (.lload 4, 2) := by decide +kernel
theorem dX1_global_179 : decode cX1_global 179 = .ok (.lconst 0, 1) := by decide +kernel
theorem dX1_global_180 : decode cX1_global 180 = .ok (.lcmp, 1) := by decide +kernel
theorem dX1_global_181 : decode cX1_global 181 = .ok (.ifCond .eq 22, 3) := by decide +kernel
theorem dX1_global_184 : decode cX1_global 184 = .ok (.lload 15, 2) := by decide +kernel
theorem dX1_global_186 : decode cX1_global 186 = .ok (.lload 15, 2) := by decide +kernel
theorem dX1_global_188 : decode cX1_global 188 = .ok (.lmul, 1) := by decide +kernel
theorem dX1_global_189 : decode cX1_global 189 = .ok (.lload 4, 2) := by decide +kernel
theorem dX1_global_191 : decode cX1_global 191 = .ok (.lmul, 1) := by decide +kernel
theorem dX1_global_192 : decode cX1_global 192 = .ok (.lload_n 2, 1) := by decide +kernel
theorem dX1_global_193 : decode cX1_global 193 = .ok (.lload 7, 2) := by decide +kernel
theorem dX1_global_195 : decode cX1_global 195 = .ok (.lload 13, 2) := by decide +kernel
theorem dX1_global_197 : decode cX1_global 197 = .ok (.lmul, 1) := by decide +kernel
theorem dX1_global_198 : decode cX1_global 198 = .ok (.lmul, 1) := by decide +kernel
theorem dX1_global_199 : decode cX1_global 199 = .ok (.lcmp, 1) := by decide +kernel
theorem dX1_global_200 : decode cX1_global 200 = .ok (.ifCond .le 19, 3) := by decide +kernel
theorem dX1_global_203 : decode cX1_global 203 = .ok (.iload 6, 2) := by decide +kernel
theorem dX1_global_205 : decode cX1_global 205 = .ok (.istore_n 1, 1) := by decide +kernel
theorem dX1_global_206 : decode cX1_global 206 = .ok (.lload 15, 2) := by decide +kernel
theorem dX1_global_208 : decode cX1_global 208 = .ok (.lload 15, 2) := by decide +kernel
theorem dX1_global_210 : decode cX1_global 210 = .ok (.lmul, 1) := by decide +kernel
theorem dX1_global_211 : decode cX1_global 211 = .ok (.lstore_n 2, 1) := by decide +kernel
theorem dX1_global_212 : decode cX1_global 212 = .ok (.lload 7, 2) := by decide +kernel
theorem dX1_global_214 : decode cX1_global 214 = .ok (.lload 13, 2) := by decide +kernel
theorem dX1_global_216 : decode cX1_global 216 = .ok (.lmul, 1) := by decide +kernel
theorem dX1_global_217 : decode cX1_global 217 = .ok (.lstore 4, 2) := by decide +kernel
theorem dX1_global_219 : decode cX1_global 219 = .ok (.iinc 6 1, 3) := by decide +kernel
theorem dX1_global_222 : decode cX1_global 222 = .ok (.goto (-200), 3) := by decide +kernel
theorem dX1_global_225 : decode cX1_global 225 = .ok (.iconst 0, 1) := by decide +kernel
theorem dX1_global_226 : decode cX1_global 226 = .ok (.istore 6, 2) := by decide +kernel
theorem dX1_global_228 : decode cX1_global 228 = .ok (.iload 6, 2) := by decide +kernel
theorem dX1_global_230 : decode cX1_global 230 = .ok (.aload_n 0, 1) := by decide +kernel
theorem dX1_global_231 : decode cX1_global 231 = .ok (.invokevirtual 40, 3) := by decide +kernel
theorem dX1_global_234 : decode cX1_global 234 = .ok (.if_icmp .ge 32, 3) := by decide +kernel
theorem dX1_global_237 : decode cX1_global 237 = .ok (.aload_n 0, 1) := by decide +kernel
theorem dX1_global_238 : decode cX1_global 238 = .ok (.getfield 13, 3) := by decide +kernel
theorem dX1_global_241 : decode cX1_global 241 = .ok (.iload 6, 2) := by decide +kernel
theorem dX1_global_243 : decode cX1_global 243 = .ok (.aload_n 0, 1) := by decide +kernel
theorem dX1_global_244 : decode cX1_global 244 = .ok (.getfield 7, 3) := by decide +kernel
theorem dX1_global_247 : decode cX1_global 247 = .ok (.iload 6, 2) := by decide +kernel
theorem dX1_global_249 : decode cX1_global 249 = .ok (.iaload, 1) := by decide +kernel
theorem dX1_global_250 : decode cX1_global 250 = .ok (.iload_n 1, 1) := by decide +kernel
theorem dX1_global_251 : decode cX1_global 251 = .ok (.if_icmp .gt 7, 3) := by decide +kernel
theorem dX1_global_254 : decode cX1_global 254 = .ok (.iconst 1, 1) := by decide +kernel
theorem dX1_global_255 : decode cX1_global 255 = .ok (.goto 4, 3) := by decide +kernel
theorem dX1_global_258 : decode cX1_global 258 = .ok (.iconst 0, 1) := by decide +kernel
theorem dX1_global_259 : decode cX1_global 259 = .ok (.bastore, 1) := by decide +kernel
theorem dX1_global_260 : decode cX1_global 260 = .ok (.iinc 6 1, 3) := by decide +kernel
theorem dX1_global_263 : decode cX1_global 263 = .ok (.goto (-35), 3) := by decide +kernel
theorem dX1_global_266 : decode cX1_global 266 = .ok (.iload_n 1, 1) := by decide +kernel
theorem dX1_global_267 : decode cX1_global 267 = .ok (.ireturn, 1) := by decide +kernel
theorem dX1_isDark_0 : decode cX1_isDark 0 = .ok (.lconst 0, 1) := by decide +kernel
theorem dX1_isDark_1 : decode cX1_isDark 1 = .ok (.lstore 5, 2) := by decide +kernel
theorem dX1_isDark_3 : decode cX1_isDark 3 = .ok (.lconst 0, 1) := by decide +kernel
theorem dX1_isDark_4 : decode cX1_isDark 4 = .ok (.lstore 7, 2) := by decide +kernel
theorem dX1_isDark_6 : decode cX1_isDark 6 = .ok (.lconst 0, 1) := by decide +kernel
theorem dX1_isDark_7 : decode cX1_isDark 7 = .ok (.lstore 9, 2) := by decide +kernel
theorem dX1_isDark_9 : decode cX1_isDark 9 = .ok (.iload_n 2, 1) := by decide +kernel
theorem dX1_isDark_10 : decode cX1_isDark 10 = .ok (.iload_n 3, 1) := by decide +kernel
theorem dX1_isDark_11 : decode cX1_isDark 11 = .ok (.isub, 1) := by decide +kernel
theorem dX1_isDark_12 : decode cX1_isDark 12 = .ok (.istore 11, 2) := by decide +kernel
theorem dX1_isDark_14 : decode cX1_isDark 14 = .ok (.iload 11, 2) := by decide +kernel
theorem dX1_isDark_16 : decode cX1_isDark 16 = .ok (.iload_n 2, 1) := by decide +kernel
theorem dX1_isDark_17 : decode cX1_isDark 17 = .ok (.iload_n 3, 1) := by decide +kernel
theorem dX1_isDark_18 : decode cX1_isDark 18 = .ok (.iadd, 1) := by decide +kernel
theorem dX1_isDark_19 : decode cX1_isDark 19 = .ok (.if_icmp .gt 80, 3) := by decide +kernel
theorem dX1_isDark_22 : decode cX1_isDark 22 = .ok (.iload_n 1, 1) := by decide +kernel
theorem dX1_isDark_23 : decode cX1_isDark 23 = .ok (.iload_n 3, 1) := by decide +kernel
theorem dX1_isDark_24 : decode cX1_isDark 24 = .ok (.isub, 1) := by decide +kernel
theorem dX1_isDark_25 : decode cX1_isDark 25 = .ok (.istore 12, 2) := by decide +kernel
theorem dX1_isDark_27 : decode cX1_isDark 27 = .ok (.iload 12, 2) := by decide +kernel
theorem dX1_isDark_29 : decode cX1_isDark 29 = .ok (.iload_n 1, 1) := by decide +kernel
theorem dX1_isDark_30 : decode cX1_isDark 30 = .ok (.iload_n 3, 1) := by decide +kernel
theorem dX1_isDark_31 : decode cX1_isDark 31 = .ok (.iadd, 1) := by decide +kernel
theorem dX1_isDark_32 : decode cX1_isDark 32 = .ok (.if_icmp .gt 61, 3) := by decide +kernel
theorem dX1_isDark_35 : decode cX1_isDark 35 = .ok (.aload_n 0, 1) := by decide +kernel
theorem dX1_isDark_36 : decode cX1_isDark 36 = .ok (.iload 12, 2) := by decide +kernel
theorem dX1_isDark_38 : decode cX1_isDark 38 = .ok (.iload 11, 2) := by decide +kernel
theorem dX1_isDark_40 : decode cX1_isDark 40 = .ok (.invokevirtual 36, 3) := by decide +kernel
theorem dX1_isDark_43 : decode cX1_isDark 43 = .ok (.ifCond .eq 44, 3) := by decide +kernel
theorem dX1_isDark_46 : decode cX1_isDark 46 = .ok (.aload_n 0, 1) := by decide +kernel
theorem dX1_isDark_47 : decode cX1_isDark 47 = .ok (.getfield 7, 3) := by decide +kernel
theorem dX1_isDark_50 : decode cX1_isDark 50 = .ok (.aload_n 0, 1) := by decide +kernel
theorem dX1_isDark_51 : decode cX1_isDark 51 = .ok (.getfield 26, 3) := by decide +kernel
theorem dX1_isDark_54 : decode cX1_isDark 54 = .ok (.iload 11, 2) := by decide +kernel
theorem dX1_isDark_56 : decode cX1_isDark 56 = .ok (.imul, 1) := by decide +kernel
theorem dX1_isDark_57 : decode cX1_isDark 57 = .ok (.iload 12, 2) := by decide +kernel
theorem dX1_isDark_59 : decode cX1_isDark 59 = .ok (.iadd, 1) := by decide +kernel
theorem dX1_isDark_60 : decode cX1_isDark 60 = .ok (.iaload, 1) := by decide +kernel
theorem dX1_isDark_61 : decode cX1_isDark 61 = .ok (.i2l, 1) := by decide +kernel
theorem dX1_isDark_62 : decode cX1_isDark 62 = .ok (.lstore 13, 2) := by decide +kernel
theorem dX1_isDark_64 : decode cX1_isDark 64 = .ok (.lload 5, 2) := by decide +kernel
theorem dX1_isDark_66 : decode cX1_isDark 66 = .ok (.lconst 1, 1) := by decide +kernel
theorem dX1_isDark_67 : decode cX1_isDark 67 = .ok (.ladd, 1) := by decide +kernel
theorem dX1_isDark_68 : decode cX1_isDark 68 = .ok (.lstore 5, 2) := by decide +kernel
theorem dX1_isDark_70 : decode cX1_isDark 70 = .ok (.lload 7, 2) := by decide +kernel
theorem dX1_isDark_72 : decode cX1_isDark 72 = .ok (.lload 13, 2) := by decide +kernel
theorem dX1_isDark_74 : decode cX1_isDark 74 = .ok (.ladd, 1) := by decide +kernel
theorem dX1_isDark_75 : decode cX1_isDark 75 = .ok (.lstore 7, 2) := by decide +kernel
theorem dX1_isDark_77 : decode cX1_isDark 77 = .ok (.lload 9, 2) := by decide +kernel
theorem dX1_isDark_79 : decode cX1_isDark 79 = .ok (.lload 13, 2) := by decide +kernel
theorem dX1_isDark_81 : decode cX1_isDark 81 = .ok (.lload 13, 2) := by decide +kernel
theorem dX1_isDark_83 : decode cX1_isDark 83 = .ok (.lmul, 1) := by decide +kernel
theorem dX1_isDark_84 : decode cX1_isDark 84 = .ok (.ladd, 1) := by decide +kernel
theorem dX1_isDark_85 : decode cX1_isDark 85 = .ok (.lstore 9, 2) := by decide +kernel
theorem dX1_isDark_87 : decode cX1_isDark 87 = .ok (.iinc 12 1, 3) := by decide +kernel
theorem dX1_isDark_90 : decode cX1_isDark 90 = .ok (.goto (-63), 3) := by decide +kernel
theorem dX1_isDark_93 : decode cX1_isDark 93 = .ok (.iinc 11 1, 3) := by decide +kernel
theorem dX1_isDark_96 : decode cX1_isDark 96 = .ok (.goto (-82), 3) := by decide +kernel
theorem dX1_isDark_99 : decode cX1_isDark 99 = .ok (.aload_n 0, 1) := by decide +kernel
theorem dX1_isDark_100 : decode cX1_isDark 100 = .ok (.getfield 7, 3) := by decide +kernel
theorem dX1_isDark_103 : decode cX1_isDark 103 = .ok (.aload_n 0, 1) := by decide +kernel
theorem dX1_isDark_104 : decode cX1_isDark 104 = .ok (.getfield 26, 3) := by decide +kernel
theorem dX1_isDark_107 : decode cX1_isDark 107 = .ok (.iload_n 2, 1) := by decide +kernel
theorem dX1_isDark_108 : decode cX1_isDark 108 = .ok (.imul, 1) := by decide +kernel
theorem dX1_isDark_109 : decode cX1_isDark 109 = .ok (.iload_n 1, 1) := by decide +kernel
theorem dX1_isDark_110 : decode cX1_isDark 110 = .ok (.iadd, 1) := by decide +kernel
theorem dX1_isDark_111 : decode cX1_isDark 111 = .ok (.iaload, 1) := by decide +kernel
theorem dX1_isDark_112 : decode cX1_isDark 112 = .ok (.i2l, 1) := by decide +kernel
theorem dX1_isDark_113 : decode cX1_isDark 113 = .ok (.lstore 11, 2) := by decide +kernel
theorem dX1_isDark_115 : decode cX1_isDark 115 = .ok (.lload 5, 2) := by decide +kernel
theorem dX1_isDark_117 : decode cX1_isDark 117 = .ok (.lload 9, 2) := by decide +kernel
theorem dX1_isDark_119 : decode cX1_isDark 119 = .ok (.lmul, 1) := by decide +kernel
theorem dX1_isDark_120 : decode cX1_isDark 120 = .ok (.lload 7, 2) := by decide +kernel
theorem dX1_isDark_122 : decode cX1_isDark 122 = .ok (.lload 7, 2) := by decide +kernel
theorem dX1_isDark_124 : decode cX1_isDark 124 = .ok (.lmul, 1) := by decide +kernel
theorem dX1_isDark_125 : decode cX1_isDark 125 = .ok (.lsub, 1) := by decide +kernel
theorem dX1_isDark_126 : decode cX1_isDark 126 = .ok (.lstore 13, 2) := by decide +kernel
theorem dX1_isDark_128 : decode cX1_isDark 128 = .ok (.lload 7, 2) := by decide +kernel
theorem dX1_isDark_130 : decode cX1_isDark 130 = .ok (.lload 5, 2) := by decide +kernel
theorem dX1_isDark_132 : decode cX1_isDark 132 = .ok (.lload 11, 2) := by decide +kernel
theorem dX1_isDark_134 : decode cX1_isDark 134 = .ok (.lmul, 1) := by decide +kernel
theorem dX1_isDark_135 : decode cX1_isDark 135 = .ok (.lsub, 1) := by decide +kernel
theorem dX1_isDark_136 : decode cX1_isDark 136 = .ok (.lstore 15, 2) := by decide +kernel
theorem dX1_isDark_138 : decode cX1_isDark 138 = .ok (.lload 13, 2) := by decide +kernel
theorem dX1_isDark_140 : decode cX1_isDark 140 = .ok (.lconst 0, 1) := by decide +kernel
theorem dX1_isDark_141 : decode cX1_isDark 141 = .ok (.lcmp, 1) := by decide +kernel
theorem dX1_isDark_142 : decode cX1_isDark 142 = .ok (.ifCond .ne 20, 3) := by decide +kernel
theorem dX1_isDark_145 : decode cX1_isDark 145 = .ok (.lload 11, 2) := by decide +kernel
theorem dX1_isDark_147 : decode cX1_isDark 147 = .ok (.ldc2_w 44, 3) := by decide +kernel
theorem dX1_isDark_150 : decode cX1_isDark 150 = .ok (.lcmp, 1) := by decide +kernel
theorem dX1_isDark_151 : decode cX1_isDark 151 = .ok (.ifCond .ge 7, 3) := by decide +kernel
theorem dX1_isDark_154 : decode cX1_isDark 154 = .ok (.iconst 1, 1) := by decide +kernel
theorem dX1_isDark_155 : decode cX1_isDark 155 = .ok (.goto 42, 3) := by decide +kernel
theorem dX1_isDark_158 : decode cX1_isDark 158 = .ok (.iconst 0, 1) := by decide +kernel
theorem dX1_isDark_159 : decode cX1_isDark 159 = .ok (.goto 38, 3) := by decide +kernel
theorem dX1_isDark_162 : decode cX1_isDark 162 = .ok (.lload 15, 2) := by decide +kernel
theorem dX1_isDark_164 : decode cX1_isDark 164 = .ok (.lconst 0, 1) := by decide +kernel
theorem dX1_isDark_165 : decode cX1_isDark 165 = .ok (.lcmp, 1) := by decide +kernel
theorem dX1_isDark_166 : decode cX1_isDark 166 = .ok (.ifCond .lt 30, 3) := by decide +kernel
theorem dX1_isDark_169 : decode cX1_isDark 169 = .ok (.ldc2_w 46, 3) := by decide +kernel
theorem dX1_isDark_172 : decode cX1_isDark 172 = .ok (.lload 15, 2) := by decide +kernel
theorem dX1_isDark_174 : decode cX1_isDark 174 = .ok (.lmul, 1) := by decide +kernel
theorem dX1_isDark_175 : decode cX1_isDark 175 = .ok (.lload 15, 2) := by decide +kernel
theorem dX1_isDark_177 : decode cX1_isDark 177 = .ok (.lmul, 1) := by decide +kernel
theorem dX1_isDark_178 : decode cX1_isDark 178 = .ok (.iload 4, 2) := by decide +kernel
theorem dX1_isDark_180 : decode cX1_isDark 180 = .ok (.i2l, 1) := by decide +kernel
theorem dX1_isDark_181 : decode cX1_isDark 181 = .ok (.iload 4, 2) := by decide +kernel
theorem dX1_isDark_183 : decode cX1_isDark 183 = .ok (.i2l, 1) := by decide +kernel
theorem dX1_isDark_184 : decode cX1_isDark 184 = .ok (.lmul, 1) := by decide +kernel
theorem dX1_isDark_185 : decode cX1_isDark 185 = .ok (.lload 13, 2) := by decide +kernel
theorem dX1_isDark_187 : decode cX1_isDark 187 = .ok (.lmul, 1) := by decide +kernel
theorem dX1_isDark_188 : decode cX1_isDark 188 = .ok (.lcmp, 1) := by decide +kernel
theorem dX1_isDark_189 : decode cX1_isDark 189 = .ok (.ifCond .lt 7, 3) := by decide +kernel
theorem dX1_isDark_192 : decode cX1_isDark 192 = .ok (.iconst 1, 1) := by decide +kernel
theorem dX1_isDark_193 : decode cX1_isDark 193 = .ok (.goto 4, 3) := by decide +kernel
theorem dX1_isDark_196 : decode cX1_isDark 196 = .ok (.iconst 0, 1) := by decide +kernel
theorem dX1_isDark_197 : decode cX1_isDark 197 = .ok (.ireturn, 1) := by decide +kernel
theorem dX1_local_0 : decode cX1_local 0 = .ok (.iload_n 1, 1) := by decide +kernel
theorem dX1_local_1 : decode cX1_local 1 = .ok (.iconst 1, 1) := by decide +kernel
theorem dX1_local_2 : decode cX1_local 2 = .ok (.if_icmp .lt 30, 3) := by decide +kernel
theorem dX1_local_5 : decode cX1_local 5 = .ok (.iload_n 1, 1) := by decide +kernel
theorem dX1_local_6 : decode cX1_local 6 = .ok (.bipush 31, 2) := by decide +kernel
theorem dX1_local_8 : decode cX1_local 8 = .ok (.if_icmp .gt 24, 3) := by decide +kernel
theorem dX1_local_11 : decode cX1_local 11 = .ok (.iload_n 1, 1) := by decide +kernel
theorem dX1_local_12 : decode cX1_local 12 = .ok (.iconst 2, 1) := by decide +kernel
theorem dX1_local_13 : decode cX1_local 13 = .ok (.irem, 1) := by decide +kernel
theorem dX1_local_14 : decode cX1_local 14 = .ok (.iconst 1, 1) := by decide +kernel
theorem dX1_local_15 : decode cX1_local 15 = .ok (.if_icmp .ne 17, 3) := by decide +kernel
theorem dX1_local_18 : decode cX1_local 18 = .ok (.iload_n 2, 1) := by decide +kernel
theorem dX1_local_19 : decode cX1_local 19 = .ok (.ifCond .lt 13, 3) := by decide +kernel
theorem dX1_local_22 : decode cX1_local 22 = .ok (.iload_n 2, 1) := by decide +kernel
theorem dX1_local_23 : decode cX1_local 23 = .ok (.bipush 64, 2) := by decide +kernel
theorem dX1_local_25 : decode cX1_local 25 = .ok (.if_icmp .gt 7, 3) := by decide +kernel
theorem dX1_local_28 : decode cX1_local 28 = .ok (.iconst 1, 1) := by decide +kernel
theorem dX1_local_29 : decode cX1_local 29 = .ok (.goto 4, 3) := by decide +kernel
theorem dX1_local_32 : decode cX1_local 32 = .ok (.iconst 0, 1) := by decide +kernel
theorem dX1_local_33 : decode cX1_local 33 = .ok (.istore_n 3, 1) := by decide +kernel
theorem dX1_local_34 : decode cX1_local 34 = .ok (.aload_n 0, 1) := by decide +kernel
theorem dX1_local_35 : decode cX1_local 35 = .ok (.iload_n 3, 1) := by decide +kernel
theorem dX1_local_36 : decode cX1_local 36 = .ok (.ifCond .eq 7, 3) := by decide +kernel
theorem dX1_local_39 : decode cX1_local 39 = .ok (.iconst 0, 1) := by decide +kernel
theorem dX1_local_40 : decode cX1_local 40 = .ok (.goto 4, 3) := by decide +kernel
theorem dX1_local_43 : decode cX1_local 43 = .ok (.iconst 1, 1) := by decide +kernel
theorem dX1_local_44 : decode cX1_local 44 = .ok (.putfield 33, 3) := by decide +kernel
theorem dX1_local_47 : decode cX1_local 47 = .ok (.aload_n 0, 1) := by decide +kernel
theorem dX1_local_48 : decode cX1_local 48 = .ok (.getfield 33, 3) := by decide +kernel
theorem dX1_local_51 : decode cX1_local 51 = .ok (.ifCond .le 5, 3) := by decide +kernel
theorem dX1_local_54 : decode cX1_local 54 = .ok (.iconst 0, 1) := by decide +kernel
theorem dX1_local_55 : decode cX1_local 55 = .ok (.ireturn, 1) := by decide +kernel
theorem dX1_local_56 : decode cX1_local 56 = .ok (.iconst 0, 1) := by decide +kernel
theorem dX1_local_57 : decode cX1_local 57 = .ok (.istore 4, 2) := by decide +kernel
theorem dX1_local_59 : decode cX1_local 59 = .ok (.iload 4, 2) := by decide +kernel
theorem dX1_local_61 : decode cX1_local 61 = .ok (.aload_n 0, 1) := by decide +kernel
theorem dX1_local_62 : decode cX1_local 62 = .ok (.invokevirtual 40, 3) := by decide +kernel
theorem dX1_local_65 : decode cX1_local 65 = .ok (.if_icmp .ge 40, 3) := by decide +kernel
theorem dX1_local_68 : decode cX1_local 68 = .ok (.aload_n 0, 1) := by decide +kernel
theorem dX1_local_69 : decode cX1_local 69 = .ok (.getfield 13, 3) := by decide +kernel
theorem dX1_local_72 : decode cX1_local 72 = .ok (.iload 4, 2) := by decide +kernel
theorem dX1_local_74 : decode cX1_local 74 = .ok (.aload_n 0, 1) := by decide +kernel
theorem dX1_local_75 : decode cX1_local 75 = .ok (.iload 4, 2) := by decide +kernel
theorem dX1_local_77 : decode cX1_local 77 = .ok (.aload_n 0, 1) := by decide +kernel
theorem dX1_local_78 : decode cX1_local 78 = .ok (.getfield 26, 3) := by decide +kernel
theorem dX1_local_81 : decode cX1_local 81 = .ok (.irem, 1) := by decide +kernel
theorem dX1_local_82 : decode cX1_local 82 = .ok (.iload 4, 2) := by decide +kernel
theorem dX1_local_84 : decode cX1_local 84 = .ok (.aload_n 0, 1) := by decide +kernel
theorem dX1_local_85 : decode cX1_local 85 = .ok (.getfield 26, 3) := by decide +kernel
theorem dX1_local_88 : decode cX1_local 88 = .ok (.idiv, 1) := by decide +kernel
theorem dX1_local_89 : decode cX1_local 89 = .ok (.iload_n 1, 1) := by decide +kernel
theorem dX1_local_90 : decode cX1_local 90 = .ok (.iconst 1, 1) := by decide +kernel
theorem dX1_local_91 : decode cX1_local 91 = .ok (.isub, 1) := by decide +kernel
theorem dX1_local_92 : decode cX1_local 92 = .ok (.iconst 2, 1) := by decide +kernel
theorem dX1_local_93 : decode cX1_local 93 = .ok (.idiv, 1) := by decide +kernel
theorem dX1_local_94 : decode cX1_local 94 = .ok (.iload_n 2, 1) := by decide +kernel
theorem dX1_local_95 : decode cX1_local 95 = .ok (.invokevirtual 48, 3) := by decide +kernel
theorem dX1_local_98 : decode cX1_local 98 = .ok (.bastore, 1) := by decide +kernel
theorem dX1_local_99 : decode cX1_local 99 = .ok (.iinc 4 1, 3) := by decide +kernel
theorem dX1_local_102 : decode cX1_local 102 = .ok (.goto (-43), 3) := by decide +kernel
theorem dX1_local_105 : decode cX1_local 105 = .ok (.aload_n 0, 1) := by decide +kernel
theorem dX1_local_106 : decode cX1_local 106 = .ok (.invokevirtual 52, 3) := by decide +kernel
theorem dX1_local_109 : decode cX1_local 109 = .ok (.ireturn, 1) := by decide +kernel
theorem dX1_pass_0 : decode cX1_pass 0 = .ok (.aload_n 0, 1) := by decide +kernel
theorem dX1_pass_1 : decode cX1_pass 1 = .ok (.iload_n 1, 1) := by decide +kernel
theorem dX1_pass_2 : decode cX1_pass 2 = .ok (.iload_n 2, 1) := by decide +kernel
theorem dX1_pass_3 : decode cX1_pass 3 = .ok (.invokevirtual 36, 3) := by decide +kernel
theorem dX1_pass_6 : decode cX1_pass 6 = .ok (.ifCond .eq 34, 3) := by decide +kernel
theorem dX1_pass_9 : decode cX1_pass 9 = .ok (.aload_n 0, 1) := by decide +kernel
theorem dX1_pass_10 : decode cX1_pass 10 = .ok (.getfield 20, 3) := by decide +kernel
theorem dX1_pass_13 : decode cX1_pass 13 = .ok (.aload_n 0, 1) := by decide +kernel
theorem dX1_pass_14 : decode cX1_pass 14 = .ok (.getfield 26, 3) := by decide +kernel
theorem dX1_pass_17 : decode cX1_pass 17 = .ok (.iload_n 2, 1) := by decide +kernel
theorem dX1_pass_18 : decode cX1_pass 18 = .ok (.imul, 1) := by decide +kernel
theorem dX1_pass_19 : decode cX1_pass 19 = .ok (.iload_n 1, 1) := by decide +kernel
theorem dX1_pass_20 : decode cX1_pass 20 = .ok (.iadd, 1) := by decide +kernel
theorem dX1_pass_21 : decode cX1_pass 21 = .ok (.aload_n 0, 1) := by decide +kernel
theorem dX1_pass_22 : decode cX1_pass 22 = .ok (.getfield 20, 3) := by decide +kernel
theorem dX1_pass_25 : decode cX1_pass 25 = .ok (.aload_n 0, 1) := by decide +kernel
theorem dX1_pass_26 : decode cX1_pass 26 = .ok (.getfield 26, 3) := by decide +kernel
theorem dX1_pass_29 : decode cX1_pass 29 = .ok (.iload_n 2, 1) := by decide +kernel
theorem dX1_pass_30 : decode cX1_pass 30 = .ok (.imul, 1) := by decide +kernel
theorem dX1_pass_31 : decode cX1_pass 31 = .ok (.iload_n 1, 1) := by decide +kernel
theorem dX1_pass_32 : decode cX1_pass 32 = .ok (.iadd, 1) := by decide +kernel
theorem dX1_pass_33 : decode cX1_pass 33 = .ok (.iaload, 1) := by decide +kernel
theorem dX1_pass_34 : decode cX1_pass 34 = .ok (.iload_n 3, 1) := by decide +kernel
theorem dX1_pass_35 : decode cX1_pass 35 = .ok (.iadd, 1) := by decide +kernel
theorem dX1_pass_36 : decode cX1_pass 36 = .ok (.iastore, 1) := by decide +kernel
theorem dX1_pass_37 : decode cX1_pass 37 = .ok (.goto 14, 3) := by decide +kernel
theorem dX1_pass_40 : decode cX1_pass 40 = .ok (.aload_n 0, 1) := by decide +kernel
theorem dX1_pass_41 : decode cX1_pass 41 = .ok (.aload_n 0, 1) := by decide +kernel
theorem dX1_pass_42 : decode cX1_pass 42 = .ok (.getfield 55, 3) := by decide +kernel
theorem dX1_pass_45 : decode cX1_pass 45 = .ok (.iload_n 3, 1) := by decide +kernel
theorem dX1_pass_46 : decode cX1_pass 46 = .ok (.i2l, 1) := by decide +kernel
theorem dX1_pass_47 : decode cX1_pass 47 = .ok (.ladd, 1) := by decide +kernel
theorem dX1_pass_48 : decode cX1_pass 48 = .ok (.putfield 55, 3) := by decide +kernel
theorem dX1_pass_51 : decode cX1_pass 51 = .ok (.return_, 1) := by decide +kernel
theorem dX1_spread_0 : decode cX1_spread 0 = .ok (.aload_n 0, 1) := by decide +kernel
theorem dX1_spread_1 : decode cX1_spread 1 = .ok (.iload_n 1, 1) := by decide +kernel
theorem dX1_spread_2 : decode cX1_spread 2 = .ok (.ifCond .lt 12, 3) := by decide +kernel
theorem dX1_spread_5 : decode cX1_spread 5 = .ok (.iload_n 1, 1) := by decide +kernel
theorem dX1_spread_6 : decode cX1_spread 6 = .ok (.iconst 2, 1) := by decide +kernel
theorem dX1_spread_7 : decode cX1_spread 7 = .ok (.if_icmp .gt 7, 3) := by decide +kernel
theorem dX1_spread_10 : decode cX1_spread 10 = .ok (.iconst 0, 1) := by decide +kernel
theorem dX1_spread_11 : decode cX1_spread 11 = .ok (.goto 4, 3) := by decide +kernel
theorem dX1_spread_14 : decode cX1_spread 14 = .ok (.iconst 1, 1) := by decide +kernel
theorem dX1_spread_15 : decode cX1_spread 15 = .ok (.putfield 33, 3) := by decide +kernel
theorem dX1_spread_18 : decode cX1_spread 18 = .ok (.aload_n 0, 1) := by decide +kernel
theorem dX1_spread_19 : decode cX1_spread 19 = .ok (.getfield 33, 3) := by decide +kernel
theorem dX1_spread_22 : decode cX1_spread 22 = .ok (.ifCond .le 5, 3) := by decide +kernel
theorem dX1_spread_25 : decode cX1_spread 25 = .ok (.iconst 0, 1) := by decide +kernel
theorem dX1_spread_26 : decode cX1_spread 26 = .ok (.ireturn, 1) := by decide +kernel
theorem dX1_spread_27 : decode cX1_spread 27 = .ok (.aload_n 0, 1) := by decide +kernel
theorem dX1_spread_28 : decode cX1_spread 28 = .ok (.lconst 0, 1) := by decide +kernel
theorem dX1_spread_29 : decode cX1_spread 29 = .ok (.putfield 55, 3) := by decide +kernel
theorem dX1_spread_32 : decode cX1_spread 32 = .ok (.iconst 0, 1) := by decide +kernel
theorem dX1_spread_33 : decode cX1_spread 33 = .ok (.istore_n 2, 1) := by decide +kernel
theorem dX1_spread_34 : decode cX1_spread 34 = .ok (.iload_n 2, 1) := by decide +kernel
theorem dX1_spread_35 : decode cX1_spread 35 = .ok (.sipush 256, 3) := by decide +kernel
theorem dX1_spread_38 : decode cX1_spread 38 = .ok (.if_icmp .ge 16, 3) := by decide +kernel
theorem dX1_spread_41 : decode cX1_spread 41 = .ok (.aload_n 0, 1) := by decide +kernel
theorem dX1_spread_42 : decode cX1_spread 42 = .ok (.getfield 20, 3) := by decide +kernel
theorem dX1_spread_45 : decode cX1_spread 45 = .ok (.iload_n 2, 1) := by decide +kernel
theorem dX1_spread_46 : decode cX1_spread 46 = .ok (.iconst 0, 1) := by decide +kernel
theorem dX1_spread_47 : decode cX1_spread 47 = .ok (.iastore, 1) := by decide +kernel
theorem dX1_spread_48 : decode cX1_spread 48 = .ok (.iinc 2 1, 3) := by decide +kernel
theorem dX1_spread_51 : decode cX1_spread 51 = .ok (.goto (-17), 3) := by decide +kernel
theorem dX1_spread_54 : decode cX1_spread 54 = .ok (.iconst 0, 1) := by decide +kernel
theorem dX1_spread_55 : decode cX1_spread 55 = .ok (.istore_n 2, 1) := by decide +kernel
theorem dX1_spread_56 : decode cX1_spread 56 = .ok (.iload_n 2, 1) := by decide +kernel
theorem dX1_spread_57 : decode cX1_spread 57 = .ok (.aload_n 0, 1) := by decide +kernel
theorem dX1_spread_58 : decode cX1_spread 58 = .ok (.getfield 30, 3) := by decide +kernel
theorem dX1_spread_61 : decode cX1_spread 61 = .ok (.if_icmp .ge 227, 3) := by decide +kernel
theorem dX1_spread_64 : decode cX1_spread 64 = .ok (.iload_n 1, 1) := by decide +kernel
theorem dX1_spread_65 : decode cX1_spread 65 = .ok (.iconst 1, 1) := by decide +kernel
theorem dX1_spread_66 : decode cX1_spread 66 = .ok (.if_icmp .ne 14, 3) := by decide +kernel
theorem dX1_spread_69 : decode cX1_spread 69 = .ok (.iload_n 2, 1) := by decide +kernel
theorem dX1_spread_70 : decode cX1_spread 70 = .ok (.iconst 2, 1) := by decide +kernel
theorem dX1_spread_71 : decode cX1_spread 71 = .ok (.irem, 1) := by decide +kernel
theorem dX1_spread_72 : decode cX1_spread 72 = .ok (.iconst 1, 1) := by decide +kernel
theorem dX1_spread_73 : decode cX1_spread 73 = .ok (.if_icmp .ne 7, 3) := by decide +kernel
theorem dX1_spread_76 : decode cX1_spread 76 = .ok (.iconst 1, 1) := by decide +kernel
theorem dX1_spread_77 : decode cX1_spread 77 = .ok (.goto 4, 3) := by decide +kernel
theorem dX1_spread_80 : decode cX1_spread 80 = .ok (.iconst 0, 1) := by decide +kernel
theorem dX1_spread_81 : decode cX1_spread 81 = .ok (.istore_n 3, 1) := by decide +kernel
theorem dX1_spread_82 : decode cX1_spread 82 = .ok (.iconst 0, 1) := by decide +kernel
theorem dX1_spread_83 : decode cX1_spread 83 = .ok (.istore 4, 2) := by decide +kernel
theorem dX1_spread_85 : decode cX1_spread 85 = .ok (.iload 4, 2) := by decide +kernel
theorem dX1_spread_87 : decode cX1_spread 87 = .ok (.aload_n 0, 1) := by decide +kernel
theorem dX1_spread_88 : decode cX1_spread 88 = .ok (.getfield 26, 3) := by decide +kernel
theorem dX1_spread_91 : decode cX1_spread 91 = .ok (.if_icmp .ge 191, 3) := by decide +kernel
theorem dX1_spread_94 : decode cX1_spread 94 = .ok (.iload_n 3, 1) := by decide +kernel
theorem dX1_spread_95 : decode cX1_spread 95 = .ok (.ifCond .eq 15, 3) := by decide +kernel
theorem dX1_spread_98 : decode cX1_spread 98 = .ok (.aload_n 0, 1) := by decide +kernel
theorem dX1_spread_99 : decode cX1_spread 99 = .ok (.getfield 26, 3) := by decide +kernel
theorem dX1_spread_102 : decode cX1_spread 102 = .ok (.iconst 1, 1) := by decide +kernel
theorem dX1_spread_103 : decode cX1_spread 103 = .ok (.isub, 1) := by decide +kernel
theorem dX1_spread_104 : decode cX1_spread 104 = .ok (.iload 4, 2) := by decide +kernel
theorem dX1_spread_106 : decode cX1_spread 106 = .ok (.isub, 1) := by decide +kernel
theorem dX1_spread_107 : decode cX1_spread 107 = .ok (.goto 5, 3) := by decide +kernel
theorem dX1_spread_110 : decode cX1_spread 110 = .ok (.iload 4, 2) := by decide +kernel
theorem dX1_spread_112 : decode cX1_spread 112 = .ok (.istore 5, 2) := by decide +kernel
theorem dX1_spread_114 : decode cX1_spread 114 = .ok (.aload_n 0, 1) := by decide +kernel
theorem dX1_spread_115 : decode cX1_spread 115 = .ok (.getfield 26, 3) := by decide +kernel
theorem dX1_spread_118 : decode cX1_spread 118 = .ok (.iload_n 2, 1) := by decide +kernel
theorem dX1_spread_119 : decode cX1_spread 119 = .ok (.imul, 1) := by decide +kernel
theorem dX1_spread_120 : decode cX1_spread 120 = .ok (.iload 5, 2) := by decide +kernel
theorem dX1_spread_122 : decode cX1_spread 122 = .ok (.iadd, 1) := by decide +kernel
theorem dX1_spread_123 : decode cX1_spread 123 = .ok (.istore 6, 2) := by decide +kernel
theorem dX1_spread_125 : decode cX1_spread 125 = .ok (.aload_n 0, 1) := by decide +kernel
theorem dX1_spread_126 : decode cX1_spread 126 = .ok (.getfield 7, 3) := by decide +kernel
theorem dX1_spread_129 : decode cX1_spread 129 = .ok (.iload 6, 2) := by decide +kernel
theorem dX1_spread_131 : decode cX1_spread 131 = .ok (.iaload, 1) := by decide +kernel
theorem dX1_spread_132 : decode cX1_spread 132 = .ok (.aload_n 0, 1) := by decide +kernel
theorem dX1_spread_133 : decode cX1_spread 133 = .ok (.getfield 20, 3) := by decide +kernel
theorem dX1_spread_136 : decode cX1_spread 136 = .ok (.iload 6, 2) := by decide +kernel
theorem dX1_spread_138 : decode cX1_spread 138 = .ok (.iaload, 1) := by decide +kernel
theorem dX1_spread_139 : decode cX1_spread 139 = .ok (.iadd, 1) := by decide +kernel
theorem dX1_spread_140 : decode cX1_spread 140 = .ok (.istore 7, 2) := by decide +kernel
theorem dX1_spread_142 : decode cX1_spread 142 = .ok (.aload_n 0, 1) := by decide +kernel
theorem dX1_spread_143 : decode cX1_spread 143 = .ok (.getfield 13, 3) := by decide +kernel
theorem dX1_spread_146 : decode cX1_spread 146 = .ok (.iload 6, 2) := by decide +kernel
theorem dX1_spread_148 : decode cX1_spread 148 = .ok (.iload 7, 2) := by decide +kernel
theorem dX1_spread_150 : decode cX1_spread 150 = .ok (.sipush 128, 3) := by decide +kernel
theorem dX1_spread_153 : decode cX1_spread 153 = .ok (.if_icmp .ge 7, 3) := by decide +kernel
theorem dX1_spread_156 : decode cX1_spread 156 = .ok (.iconst 1, 1) := by decide +kernel
theorem dX1_spread_157 : decode cX1_spread 157 = .ok (.goto 4, 3) := by decide +kernel
theorem dX1_spread_160 : decode cX1_spread 160 = .ok (.iconst 0, 1) := by decide +kernel
theorem dX1_spread_161 : decode cX1_spread 161 = .ok (.bastore, 1) := by decide +kernel
theorem dX1_spread_162 : decode cX1_spread 162 = .ok (.aload_n 0, 1) := by decide +kernel
theorem dX1_spread_163 : decode cX1_spread 163 = .ok (.getfield 13, 3) := by decide +kernel
theorem dX1_spread_166 : decode cX1_spread 166 = .ok (.iload 6, 2) := by decide +kernel
theorem dX1_spread_168 : decode cX1_spread 168 = .ok (.baload, 1) := by decide +kernel
theorem dX1_spread_169 : decode cX1_spread 169 = .ok (.ifCond .eq 8, 3) := by decide +kernel
theorem dX1_spread_172 : decode cX1_spread 172 = .ok (.iload 7, 2) := by decide +kernel
theorem dX1_spread_174 : decode cX1_spread 174 = .ok (.goto 9, 3) := by decide +kernel
theorem dX1_spread_177 : decode cX1_spread 177 = .ok (.iload 7, 2) := by decide +kernel
theorem dX1_spread_179 : decode cX1_spread 179 = .ok (.sipush 255, 3) := by decide +kernel
theorem dX1_spread_182 : decode cX1_spread 182 = .ok (.isub, 1) := by decide +kernel
theorem dX1_spread_183 : decode cX1_spread 183 = .ok (.istore 8, 2) := by decide +kernel
theorem dX1_spread_185 : decode cX1_spread 185 = .ok (.iload 8, 2) := by decide +kernel
theorem dX1_spread_187 : decode cX1_spread 187 = .ok (.iconst 2, 1) := by decide +kernel
theorem dX1_spread_188 : decode cX1_spread 188 = .ok (.idiv, 1) := by decide +kernel
theorem dX1_spread_189 : decode cX1_spread 189 = .ok (.istore 9, 2) := by decide +kernel
theorem dX1_spread_191 : decode cX1_spread 191 = .ok (.iload_n 1, 1) := by decide +kernel
theorem dX1_spread_192 : decode cX1_spread 192 = .ok (.iconst 2, 1) := by decide +kernel
theorem dX1_spread_193 : decode cX1_spread 193 = .ok (.if_icmp .ne 10, 3) := by decide +kernel
theorem dX1_spread_196 : decode cX1_spread 196 = .ok (.iload 8, 2) := by decide +kernel
theorem dX1_spread_198 : decode cX1_spread 198 = .ok (.iconst 4, 1) := by decide +kernel
theorem dX1_spread_199 : decode cX1_spread 199 = .ok (.idiv, 1) := by decide +kernel
theorem dX1_spread_200 : decode cX1_spread 200 = .ok (.goto 4, 3) := by decide +kernel
theorem dX1_spread_203 : decode cX1_spread 203 = .ok (.iconst 0, 1) := by decide +kernel
theorem dX1_spread_204 : decode cX1_spread 204 = .ok (.istore 10, 2) := by decide +kernel
theorem dX1_spread_206 : decode cX1_spread 206 = .ok (.aload_n 0, 1) := by decide +kernel
theorem dX1_spread_207 : decode cX1_spread 207 = .ok (.iload_n 3, 1) := by decide +kernel
theorem dX1_spread_208 : decode cX1_spread 208 = .ok (.ifCond .eq 10, 3) := by decide +kernel
theorem dX1_spread_211 : decode cX1_spread 211 = .ok (.iload 5, 2) := by decide +kernel
theorem dX1_spread_213 : decode cX1_spread 213 = .ok (.iconst 1, 1) := by decide +kernel
theorem dX1_spread_214 : decode cX1_spread 214 = .ok (.isub, 1) := by decide +kernel
theorem dX1_spread_215 : decode cX1_spread 215 = .ok (.goto 7, 3) := by decide +kernel
theorem dX1_spread_218 : decode cX1_spread 218 = .ok (.iload 5, 2) := by decide +kernel
theorem dX1_spread_220 : decode cX1_spread 220 = .ok (.iconst 1, 1) := by decide +kernel
theorem dX1_spread_221 : decode cX1_spread 221 = .ok (.iadd, 1) := by decide +kernel
theorem dX1_spread_222 : decode cX1_spread 222 = .ok (.iload_n 2, 1) := by decide +kernel
theorem dX1_spread_223 : decode cX1_spread 223 = .ok (.iload 9, 2) := by decide +kernel
theorem dX1_spread_225 : decode cX1_spread 225 = .ok (.invokevirtual 59, 3) := by decide +kernel
theorem dX1_spread_228 : decode cX1_spread 228 = .ok (.aload_n 0, 1) := by decide +kernel
theorem dX1_spread_229 : decode cX1_spread 229 = .ok (.iload 5, 2) := by decide +kernel
theorem dX1_spread_231 : decode cX1_spread 231 = .ok (.iload_n 2, 1) := by decide +kernel
theorem dX1_spread_232 : decode cX1_spread 232 = .ok (.iconst 1, 1) := by decide +kernel
theorem dX1_spread_233 : decode cX1_spread 233 = .ok (.iadd, 1) := by decide +kernel
theorem dX1_spread_234 : decode cX1_spread 234 = .ok (.iload_n 1, 1) := by decide +kernel
theorem dX1_spread_235 : decode cX1_spread 235 = .ok (.iconst 2, 1) := by decide +kernel
theorem dX1_spread_236 : decode cX1_spread 236 = .ok (.if_icmp .ne 8, 3) := by decide +kernel
theorem dX1_spread_239 : decode cX1_spread 239 = .ok (.iload 10, 2) := by decide +kernel
theorem dX1_spread_241 : decode cX1_spread 241 = .ok (.goto 8, 3) := by decide +kernel
theorem dX1_spread_244 : decode cX1_spread 244 = .ok (.iload 8, 2) := by decide +kernel
theorem dX1_spread_246 : decode cX1_spread 246 = .ok (.iload 9, 2) := by decide +kernel
theorem dX1_spread_248 : decode cX1_spread 248 = .ok (.isub, 1) := by decide +kernel
theorem dX1_spread_249 : decode cX1_spread 249 = .ok (.invokevirtual 59, 3) := by decide +kernel
theorem dX1_spread_252 : decode cX1_spread 252 = .ok (.iload_n 1, 1) := by decide +kernel
theorem dX1_spread_253 : decode cX1_spread 253 = .ok (.iconst 2, 1) := by decide +kernel
theorem dX1_spread_254 : decode cX1_spread 254 = .ok (.if_icmp .ne 22, 3) := by decide +kernel
theorem dX1_spread_257 : decode cX1_spread 257 = .ok (.aload_n 0, 1) := by decide +kernel
theorem dX1_spread_258 : decode cX1_spread 258 = .ok (.iload 5, 2) := by decide +kernel
theorem dX1_spread_260 : decode cX1_spread 260 = .ok (.iconst 1, 1) := by decide +kernel
theorem dX1_spread_261 : decode cX1_spread 261 = .ok (.isub, 1) := by decide +kernel
theorem dX1_spread_262 : decode cX1_spread 262 = .ok (.iload_n 2, 1) := by decide +kernel
theorem dX1_spread_263 : decode cX1_spread 263 = .ok (.iconst 1, 1) := by decide +kernel
theorem dX1_spread_264 : decode cX1_spread 264 = .ok (.iadd, 1) := by decide +kernel
theorem dX1_spread_265 : decode cX1_spread 265 = .ok (.iload 8, 2) := by decide +kernel
theorem dX1_spread_267 : decode cX1_spread 267 = .ok (.iload 9, 2) := by decide +kernel
theorem dX1_spread_269 : decode cX1_spread 269 = .ok (.isub, 1) := by decide +kernel
theorem dX1_spread_270 : decode cX1_spread 270 = .ok (.iload 10, 2) := by decide +kernel
theorem dX1_spread_272 : decode cX1_spread 272 = .ok (.isub, 1) := by decide +kernel
theorem dX1_spread_273 : decode cX1_spread 273 = .ok (.invokevirtual 59, 3) := by decide +kernel
theorem dX1_spread_276 : decode cX1_spread 276 = .ok (.iinc 4 1, 3) := by decide +kernel
theorem dX1_spread_279 : decode cX1_spread 279 = .ok (.goto (-194), 3) := by decide +kernel
theorem dX1_spread_282 : decode cX1_spread 282 = .ok (.iinc 2 1, 3) := by decide +kernel
theorem dX1_spread_285 : decode cX1_spread 285 = .ok (.goto (-229), 3) := by decide +kernel
theorem dX1_spread_288 : decode cX1_spread 288 = .ok (.aload_n 0, 1) := by decide +kernel
theorem dX1_spread_289 : decode cX1_spread 289 = .ok (.invokevirtual 52, 3) := by decide +kernel
theorem dX1_spread_292 : decode cX1_spread 292 = .ok (.ireturn, 1) := by decide +kernel
theorem dX1_rest_0 : decode cX1_rest 0 = .ok (.aload_n 0, 1) := by decide +kernel
theorem dX1_rest_1 : decode cX1_rest 1 = .ok (.iconst 0, 1) := by decide +kernel
theorem dX1_rest_2 : decode cX1_rest 2 = .ok (.putfield 33, 3) := by decide +kernel
theorem dX1_rest_5 : decode cX1_rest 5 = .ok (.aload_n 0, 1) := by decide +kernel
theorem dX1_rest_6 : decode cX1_rest 6 = .ok (.getfield 55, 3) := by decide +kernel
theorem dX1_rest_9 : decode cX1_rest 9 = .ok (.lreturn, 1) := by decide +kernel
theorem dX1_isCells_0 : decode cX1_isCells 0 = .ok (.iload_n 0, 1) := by decide +kernel
theorem dX1_isCells_1 : decode cX1_isCells 1 = .ok (.iconst 1, 1) := by decide +kernel
theorem dX1_isCells_2 : decode cX1_isCells 2 = .ok (.if_icmp .eq 19, 3) := by decide +kernel
theorem dX1_isCells_5 : decode cX1_isCells 5 = .ok (.iload_n 0, 1) := by decide +kernel
theorem dX1_isCells_6 : decode cX1_isCells 6 = .ok (.iconst 2, 1) := by decide +kernel
theorem dX1_isCells_7 : decode cX1_isCells 7 = .ok (.if_icmp .eq 14, 3) := by decide +kernel
theorem dX1_isCells_10 : decode cX1_isCells 10 = .ok (.iload_n 0, 1) := by decide +kernel
theorem dX1_isCells_11 : decode cX1_isCells 11 = .ok (.iconst 4, 1) := by decide +kernel
theorem dX1_isCells_12 : decode cX1_isCells 12 = .ok (.if_icmp .eq 9, 3) := by decide +kernel
theorem dX1_isCells_15 : decode cX1_isCells 15 = .ok (.iload_n 0, 1) := by decide +kernel
theorem dX1_isCells_16 : decode cX1_isCells 16 = .ok (.bipush 8, 2) := by decide +kernel
theorem dX1_isCells_18 : decode cX1_isCells 18 = .ok (.if_icmp .ne 7, 3) := by decide +kernel
theorem dX1_isCells_21 : decode cX1_isCells 21 = .ok (.iconst 1, 1) := by decide +kernel
theorem dX1_isCells_22 : decode cX1_isCells 22 = .ok (.goto 4, 3) := by decide +kernel
theorem dX1_isCells_25 : decode cX1_isCells 25 = .ok (.iconst 0, 1) := by decide +kernel
theorem dX1_isCells_26 : decode cX1_isCells 26 = .ok (.ireturn, 1) := by decide +kernel
theorem dX1_cellOf_0 : decode cX1_cellOf 0 = .ok (.iconst 0, 1) := by decide +kernel
theorem dX1_cellOf_1 : decode cX1_cellOf 1 = .ok (.istore_n 3, 1) := by decide +kernel
theorem dX1_cellOf_2 : decode cX1_cellOf 2 = .ok (.iconst 1, 1) := by decide +kernel
theorem dX1_cellOf_3 : decode cX1_cellOf 3 = .ok (.istore 4, 2) := by decide +kernel
theorem dX1_cellOf_5 : decode cX1_cellOf 5 = .ok (.iload 4, 2) := by decide +kernel
theorem dX1_cellOf_7 : decode cX1_cellOf 7 = .ok (.iload_n 0, 1) := by decide +kernel
theorem dX1_cellOf_8 : decode cX1_cellOf 8 = .ok (.if_icmp .ge 79, 3) := by decide +kernel
theorem dX1_cellOf_11 : decode cX1_cellOf 11 = .ok (.iload_n 1, 1) := by decide +kernel
theorem dX1_cellOf_12 : decode cX1_cellOf 12 = .ok (.iload 4, 2) := by decide +kernel
theorem dX1_cellOf_14 : decode cX1_cellOf 14 = .ok (.idiv, 1) := by decide +kernel
theorem dX1_cellOf_15 : decode cX1_cellOf 15 = .ok (.iconst 2, 1) := by decide +kernel
theorem dX1_cellOf_16 : decode cX1_cellOf 16 = .ok (.irem, 1) := by decide +kernel
theorem dX1_cellOf_17 : decode cX1_cellOf 17 = .ok (.iconst 1, 1) := by decide +kernel
theorem dX1_cellOf_18 : decode cX1_cellOf 18 = .ok (.if_icmp .ne 7, 3) := by decide +kernel
theorem dX1_cellOf_21 : decode cX1_cellOf 21 = .ok (.iconst 1, 1) := by decide +kernel
theorem dX1_cellOf_22 : decode cX1_cellOf 22 = .ok (.goto 4, 3) := by decide +kernel
theorem dX1_cellOf_25 : decode cX1_cellOf 25 = .ok (.iconst 0, 1) := by decide +kernel
theorem dX1_cellOf_26 : decode cX1_cellOf 26 = .ok (.istore 5, 2) := by decide +kernel
theorem dX1_cellOf_28 : decode cX1_cellOf 28 = .ok (.iload_n 2, 1) := by decide +kernel
theorem dX1_cellOf_29 : decode cX1_cellOf 29 = .ok (.iload 4, 2) := by decide +kernel
theorem dX1_cellOf_31 : decode cX1_cellOf 31 = .ok (.idiv, 1) := by decide +kernel
theorem dX1_cellOf_32 : decode cX1_cellOf 32 = .ok (.iconst 2, 1) := by decide +kernel
theorem dX1_cellOf_33 : decode cX1_cellOf 33 = .ok (.irem, 1) := by decide +kernel
theorem dX1_cellOf_34 : decode cX1_cellOf 34 = .ok (.iconst 1, 1) := by decide +kernel
theorem dX1_cellOf_35 : decode cX1_cellOf 35 = .ok (.if_icmp .ne 7, 3) := by decide +kernel
theorem dX1_cellOf_38 : decode cX1_cellOf 38 = .ok (.iconst 1, 1) := by decide +kernel
theorem dX1_cellOf_39 : decode cX1_cellOf 39 = .ok (.goto 4, 3) := by decide +kernel
theorem dX1_cellOf_42 : decode cX1_cellOf 42 = .ok (.iconst 0, 1) := by decide +kernel
theorem dX1_cellOf_43 : decode cX1_cellOf 43 = .ok (.istore 6, 2) := by decide +kernel
theorem dX1_cellOf_45 : decode cX1_cellOf 45 = .ok (.iconst 4, 1) := by decide +kernel
theorem dX1_cellOf_46 : decode cX1_cellOf 46 = .ok (.iload_n 3, 1) := by decide +kernel
theorem dX1_cellOf_47 : decode cX1_cellOf 47 = .ok (.imul, 1) := by decide +kernel
theorem dX1_cellOf_48 : decode cX1_cellOf 48 = .ok (.iload 5, 2) := by decide +kernel
theorem dX1_cellOf_50 : decode cX1_cellOf 50 = .ok (.ifCond .eq 16, 3) := by decide +kernel
theorem dX1_cellOf_53 : decode cX1_cellOf 53 = .ok (.iload 6, 2) := by decide +kernel
theorem dX1_cellOf_55 : decode cX1_cellOf 55 = .ok (.ifCond .eq 7, 3) := by decide +kernel
theorem dX1_cellOf_58 : decode cX1_cellOf 58 = .ok (.iconst 1, 1) := by decide +kernel
theorem dX1_cellOf_59 : decode cX1_cellOf 59 = .ok (.goto 17, 3) := by decide +kernel
theorem dX1_cellOf_62 : decode cX1_cellOf 62 = .ok (.iconst 2, 1) := by decide +kernel
theorem dX1_cellOf_63 : decode cX1_cellOf 63 = .ok (.goto 13, 3) := by decide +kernel
theorem dX1_cellOf_66 : decode cX1_cellOf 66 = .ok (.iload 6, 2) := by decide +kernel
theorem dX1_cellOf_68 : decode cX1_cellOf 68 = .ok (.ifCond .eq 7, 3) := by decide +kernel
theorem dX1_cellOf_71 : decode cX1_cellOf 71 = .ok (.iconst 3, 1) := by decide +kernel
theorem dX1_cellOf_72 : decode cX1_cellOf 72 = .ok (.goto 4, 3) := by decide +kernel
theorem dX1_cellOf_75 : decode cX1_cellOf 75 = .ok (.iconst 0, 1) := by decide +kernel
theorem dX1_cellOf_76 : decode cX1_cellOf 76 = .ok (.iadd, 1) := by decide +kernel
theorem dX1_cellOf_77 : decode cX1_cellOf 77 = .ok (.istore_n 3, 1) := by decide +kernel
theorem dX1_cellOf_78 : decode cX1_cellOf 78 = .ok (.iconst 2, 1) := by decide +kernel
theorem dX1_cellOf_79 : decode cX1_cellOf 79 = .ok (.iload 4, 2) := by decide +kernel
theorem dX1_cellOf_81 : decode cX1_cellOf 81 = .ok (.imul, 1) := by decide +kernel
theorem dX1_cellOf_82 : decode cX1_cellOf 82 = .ok (.istore 4, 2) := by decide +kernel
theorem dX1_cellOf_84 : decode cX1_cellOf 84 = .ok (.goto (-79), 3) := by decide +kernel
theorem dX1_cellOf_87 : decode cX1_cellOf 87 = .ok (.iload_n 3, 1) := by decide +kernel
theorem dX1_cellOf_88 : decode cX1_cellOf 88 = .ok (.ireturn, 1) := by decide +kernel
theorem dX1_ordered_0 : decode cX1_ordered 0 = .ok (.aload_n 0, 1) := by decide +kernel
theorem dX1_ordered_1 : decode cX1_ordered 1 = .ok (.iload_n 1, 1) := by decide +kernel
theorem dX1_ordered_2 : decode cX1_ordered 2 = .ok (.invokestatic 63, 3) := by decide +kernel
theorem dX1_ordered_5 : decode cX1_ordered 5 = .ok (.ifCond .eq 7, 3) := by decide +kernel
theorem dX1_ordered_8 : decode cX1_ordered 8 = .ok (.iconst 0, 1) := by decide +kernel
theorem dX1_ordered_9 : decode cX1_ordered 9 = .ok (.goto 4, 3) := by decide +kernel
theorem dX1_ordered_12 : decode cX1_ordered 12 = .ok (.iconst 1, 1) := by decide +kernel
theorem dX1_ordered_13 : decode cX1_ordered 13 = .ok (.putfield 33, 3) := by decide +kernel
theorem dX1_ordered_16 : decode cX1_ordered 16 = .ok (.aload_n 0, 1) := by decide +kernel
theorem dX1_ordered_17 : decode cX1_ordered 17 = .ok (.getfield 33, 3) := by decide +kernel
theorem dX1_ordered_20 : decode cX1_ordered 20 = .ok (.ifCond .le 5, 3) := by decide +kernel
theorem dX1_ordered_23 : decode cX1_ordered 23 = .ok (.iconst 0, 1) := by decide +kernel
theorem dX1_ordered_24 : decode cX1_ordered 24 = .ok (.ireturn, 1) := by decide +kernel
theorem dX1_ordered_25 : decode cX1_ordered 25 = .ok (.iconst 0, 1) := by decide +kernel
theorem dX1_ordered_26 : decode cX1_ordered 26 = .ok (.istore_n 2, 1) := by decide +kernel
theorem dX1_ordered_27 : decode cX1_ordered 27 = .ok (.iload_n 2, 1) := by decide +kernel
theorem dX1_ordered_28 : decode cX1_ordered 28 = .ok (.aload_n 0, 1) := by decide +kernel
theorem dX1_ordered_29 : decode cX1_ordered 29 = .ok (.invokevirtual 40, 3) := by decide +kernel
theorem dX1_ordered_32 : decode cX1_ordered 32 = .ok (.if_icmp .ge 61, 3) := by decide +kernel
theorem dX1_ordered_35 : decode cX1_ordered 35 = .ok (.iload_n 1, 1) := by decide +kernel
theorem dX1_ordered_36 : decode cX1_ordered 36 = .ok (.iload_n 2, 1) := by decide +kernel
theorem dX1_ordered_37 : decode cX1_ordered 37 = .ok (.aload_n 0, 1) := by decide +kernel
theorem dX1_ordered_38 : decode cX1_ordered 38 = .ok (.getfield 26, 3) := by decide +kernel
theorem dX1_ordered_41 : decode cX1_ordered 41 = .ok (.irem, 1) := by decide +kernel
theorem dX1_ordered_42 : decode cX1_ordered 42 = .ok (.iload_n 2, 1) := by decide +kernel
theorem dX1_ordered_43 : decode cX1_ordered 43 = .ok (.aload_n 0, 1) := by decide +kernel
theorem dX1_ordered_44 : decode cX1_ordered 44 = .ok (.getfield 26, 3) := by decide +kernel
theorem dX1_ordered_47 : decode cX1_ordered 47 = .ok (.idiv, 1) := by decide +kernel
theorem dX1_ordered_48 : decode cX1_ordered 48 = .ok (.invokestatic 67, 3) := by decide +kernel
theorem dX1_ordered_51 : decode cX1_ordered 51 = .ok (.istore_n 3, 1) := by decide +kernel
theorem dX1_ordered_52 : decode cX1_ordered 52 = .ok (.aload_n 0, 1) := by decide +kernel
theorem dX1_ordered_53 : decode cX1_ordered 53 = .ok (.getfield 13, 3) := by decide +kernel
theorem dX1_ordered_56 : decode cX1_ordered 56 = .ok (.iload_n 2, 1) := by decide +kernel
theorem dX1_ordered_57 : decode cX1_ordered 57 = .ok (.iconst 2, 1) := by decide +kernel
theorem dX1_ordered_58 : decode cX1_ordered 58 = .ok (.iload_n 1, 1) := by decide +kernel
theorem dX1_ordered_59 : decode cX1_ordered 59 = .ok (.imul, 1) := by decide +kernel
theorem dX1_ordered_60 : decode cX1_ordered 60 = .ok (.iload_n 1, 1) := by decide +kernel
theorem dX1_ordered_61 : decode cX1_ordered 61 = .ok (.imul, 1) := by decide +kernel
theorem dX1_ordered_62 : decode cX1_ordered 62 = .ok (.aload_n 0, 1) := by decide +kernel
theorem dX1_ordered_63 : decode cX1_ordered 63 = .ok (.getfield 7, 3) := by decide +kernel
theorem dX1_ordered_66 : decode cX1_ordered 66 = .ok (.iload_n 2, 1) := by decide +kernel
theorem dX1_ordered_67 : decode cX1_ordered 67 = .ok (.iaload, 1) := by decide +kernel
theorem dX1_ordered_68 : decode cX1_ordered 68 = .ok (.imul, 1) := by decide +kernel
theorem dX1_ordered_69 : decode cX1_ordered 69 = .ok (.sipush 256, 3) := by decide +kernel
theorem dX1_ordered_72 : decode cX1_ordered 72 = .ok (.iconst 2, 1) := by decide +kernel
theorem dX1_ordered_73 : decode cX1_ordered 73 = .ok (.iload_n 3, 1) := by decide +kernel
theorem dX1_ordered_74 : decode cX1_ordered 74 = .ok (.imul, 1) := by decide +kernel
theorem dX1_ordered_75 : decode cX1_ordered 75 = .ok (.iconst 1, 1) := by decide +kernel
theorem dX1_ordered_76 : decode cX1_ordered 76 = .ok (.iadd, 1) := by decide +kernel
theorem dX1_ordered_77 : decode cX1_ordered 77 = .ok (.imul, 1) := by decide +kernel
theorem dX1_ordered_78 : decode cX1_ordered 78 = .ok (.if_icmp .ge 7, 3) := by decide +kernel
theorem dX1_ordered_81 : decode cX1_ordered 81 = .ok (.iconst 1, 1) := by decide +kernel
theorem dX1_ordered_82 : decode cX1_ordered 82 = .ok (.goto 4, 3) := by decide +kernel
theorem dX1_ordered_85 : decode cX1_ordered 85 = .ok (.iconst 0, 1) := by decide +kernel
theorem dX1_ordered_86 : decode cX1_ordered 86 = .ok (.bastore, 1) := by decide +kernel
theorem dX1_ordered_87 : decode cX1_ordered 87 = .ok (.iinc 2 1, 3) := by decide +kernel
theorem dX1_ordered_90 : decode cX1_ordered 90 = .ok (.goto (-63), 3) := by decide +kernel
theorem dX1_ordered_93 : decode cX1_ordered 93 = .ok (.aload_n 0, 1) := by decide +kernel
theorem dX1_ordered_94 : decode cX1_ordered 94 = .ok (.invokevirtual 52, 3) := by decide +kernel
theorem dX1_ordered_97 : decode cX1_ordered 97 = .ok (.ireturn, 1) := by decide +kernel
theorem dX1_cell_0 : decode cX1_cell 0 = .ok (.aload_n 0, 1) := by decide +kernel
theorem dX1_cell_1 : decode cX1_cell 1 = .ok (.iload_n 1, 1) := by decide +kernel
theorem dX1_cell_2 : decode cX1_cell 2 = .ok (.invokestatic 63, 3) := by decide +kernel
theorem dX1_cell_5 : decode cX1_cell 5 = .ok (.ifCond .eq 15, 3) := by decide +kernel
theorem dX1_cell_8 : decode cX1_cell 8 = .ok (.iload_n 2, 1) := by decide +kernel
theorem dX1_cell_9 : decode cX1_cell 9 = .ok (.ifCond .lt 11, 3) := by decide +kernel
theorem dX1_cell_12 : decode cX1_cell 12 = .ok (.iload_n 3, 1) := by decide +kernel
theorem dX1_cell_13 : decode cX1_cell 13 = .ok (.ifCond .lt 7, 3) := by decide +kernel
theorem dX1_cell_16 : decode cX1_cell 16 = .ok (.iconst 0, 1) := by decide +kernel
theorem dX1_cell_17 : decode cX1_cell 17 = .ok (.goto 4, 3) := by decide +kernel
theorem dX1_cell_20 : decode cX1_cell 20 = .ok (.iconst 1, 1) := by decide +kernel
theorem dX1_cell_21 : decode cX1_cell 21 = .ok (.putfield 33, 3) := by decide +kernel
theorem dX1_cell_24 : decode cX1_cell 24 = .ok (.aload_n 0, 1) := by decide +kernel
theorem dX1_cell_25 : decode cX1_cell 25 = .ok (.getfield 33, 3) := by decide +kernel
theorem dX1_cell_28 : decode cX1_cell 28 = .ok (.ifCond .le 7, 3) := by decide +kernel
theorem dX1_cell_31 : decode cX1_cell 31 = .ok (.iconst 0, 1) := by decide +kernel
theorem dX1_cell_32 : decode cX1_cell 32 = .ok (.goto 9, 3) := by decide +kernel
theorem dX1_cell_35 : decode cX1_cell 35 = .ok (.iload_n 1, 1) := by decide +kernel
theorem dX1_cell_36 : decode cX1_cell 36 = .ok (.iload_n 2, 1) := by decide +kernel
theorem dX1_cell_37 : decode cX1_cell 37 = .ok (.iload_n 3, 1) := by decide +kernel
theorem dX1_cell_38 : decode cX1_cell 38 = .ok (.invokestatic 67, 3) := by decide +kernel
theorem dX1_cell_41 : decode cX1_cell 41 = .ok (.ireturn, 1) := by decide +kernel
theorem dX1_touchesBlack_0 : decode cX1_touchesBlack 0 = .ok (.iconst 0, 1) := by decide +kernel
theorem dX1_touchesBlack_1 : decode cX1_touchesBlack 1 = .ok (.istore_n 3, 1) := by decide +kernel
theorem dX1_touchesBlack_2 : decode cX1_touchesBlack 2 = .ok (.iload_n 2, 1) := by decide +kernel
theorem dX1_touchesBlack_3 : decode cX1_touchesBlack 3 = .ok (.iconst 1, 1) := by decide +kernel
theorem dX1_touchesBlack_4 : decode cX1_touchesBlack 4 = .ok (.isub, 1) := by decide +kernel
theorem dX1_touchesBlack_5 : decode cX1_touchesBlack 5 = .ok (.istore 4, 2) := by decide +kernel
theorem dX1_touchesBlack_7 : decode cX1_touchesBlack 7 = .ok (.iload 4, 2) := by decide +kernel
theorem dX1_touchesBlack_9 : decode cX1_touchesBlack 9 = .ok (.iload_n 2, 1) := by decide +kernel
theorem dX1_touchesBlack_10 : decode cX1_touchesBlack 10 = .ok (.iconst 1, 1) := by decide +kernel
theorem dX1_touchesBlack_11 : decode cX1_touchesBlack 11 = .ok (.iadd, 1) := by decide +kernel
theorem dX1_touchesBlack_12 : decode cX1_touchesBlack 12 = .ok (.if_icmp .gt 67, 3) := by decide +kernel
theorem dX1_touchesBlack_15 : decode cX1_touchesBlack 15 = .ok (.iload_n 1, 1) := by decide +kernel
theorem dX1_touchesBlack_16 : decode cX1_touchesBlack 16 = .ok (.iconst 1, 1) := by decide +kernel
theorem dX1_touchesBlack_17 : decode cX1_touchesBlack 17 = .ok (.isub, 1) := by decide +kernel
theorem dX1_touchesBlack_18 : decode cX1_touchesBlack 18 = .ok (.istore 5, 2) := by decide +kernel
theorem dX1_touchesBlack_20 : decode cX1_touchesBlack 20 = .ok (.iload 5, 2) := by decide +kernel
theorem dX1_touchesBlack_22 : decode cX1_touchesBlack 22 = .ok (.iload_n 1, 1) := by decide +kernel
theorem dX1_touchesBlack_23 : decode cX1_touchesBlack 23 = .ok (.iconst 1, 1) := by decide +kernel
theorem dX1_touchesBlack_24 : decode cX1_touchesBlack 24 = .ok (.iadd, 1) := by decide +kernel
theorem dX1_touchesBlack_25 : decode cX1_touchesBlack 25 = .ok (.if_icmp .gt 48, 3) := by decide +kernel
theorem dX1_touchesBlack_28 : decode cX1_touchesBlack 28 = .ok (.iload_n 3, 1) := by decide +kernel
theorem dX1_touchesBlack_29 : decode cX1_touchesBlack 29 = .ok (.ifCond .ne 32, 3) := by decide +kernel
theorem dX1_touchesBlack_32 : decode cX1_touchesBlack 32 = .ok (.aload_n 0, 1) := by decide +kernel
theorem dX1_touchesBlack_33 : decode cX1_touchesBlack 33 = .ok (.iload 5, 2) := by decide +kernel
theorem dX1_touchesBlack_35 : decode cX1_touchesBlack 35 = .ok (.iload 4, 2) := by decide +kernel
theorem dX1_touchesBlack_37 : decode cX1_touchesBlack 37 = .ok (.invokevirtual 36, 3) := by decide +kernel
theorem dX1_touchesBlack_40 : decode cX1_touchesBlack 40 = .ok (.ifCond .eq 25, 3) := by decide +kernel
theorem dX1_touchesBlack_43 : decode cX1_touchesBlack 43 = .ok (.aload_n 0, 1) := by decide +kernel
theorem dX1_touchesBlack_44 : decode cX1_touchesBlack 44 = .ok (.getfield 13, 3) := by decide +kernel
theorem dX1_touchesBlack_47 : decode cX1_touchesBlack 47 = .ok (.aload_n 0, 1) := by decide +kernel
theorem dX1_touchesBlack_48 : decode cX1_touchesBlack 48 = .ok (.getfield 26, 3) := by decide +kernel
theorem dX1_touchesBlack_51 : decode cX1_touchesBlack 51 = .ok (.iload 4, 2) := by decide +kernel
theorem dX1_touchesBlack_53 : decode cX1_touchesBlack 53 = .ok (.imul, 1) := by decide +kernel
theorem dX1_touchesBlack_54 : decode cX1_touchesBlack 54 = .ok (.iload 5, 2) := by decide +kernel
theorem dX1_touchesBlack_56 : decode cX1_touchesBlack 56 = .ok (.iadd, 1) := by decide +kernel
theorem dX1_touchesBlack_57 : decode cX1_touchesBlack 57 = .ok (.baload, 1) := by decide +kernel
theorem dX1_touchesBlack_58 : decode cX1_touchesBlack 58 = .ok (.ifCond .eq 7, 3) := by decide +kernel
theorem dX1_touchesBlack_61 : decode cX1_touchesBlack 61 = .ok (.iconst 1, 1) := by decide +kernel
theorem dX1_touchesBlack_62 : decode cX1_touchesBlack 62 = .ok (.goto 4, 3) := by decide +kernel
theorem dX1_touchesBlack_65 : decode cX1_touchesBlack 65 = .ok (.iconst 0, 1) := by decide +kernel
theorem dX1_touchesBlack_66 : decode cX1_touchesBlack 66 = .ok (.istore_n 3, 1) := by decide +kernel
theorem dX1_touchesBlack_67 : decode cX1_touchesBlack 67 = .ok (.iinc 5 1, 3) := by decide +kernel
theorem dX1_touchesBlack_70 : decode cX1_touchesBlack 70 = .ok (.goto (-50), 3) := by decide +kernel
theorem dX1_touchesBlack_73 : decode cX1_touchesBlack 73 = .ok (.iinc 4 1, 3) := by decide +kernel
theorem dX1_touchesBlack_76 : decode cX1_touchesBlack 76 = .ok (.goto (-69), 3) := by decide +kernel
theorem dX1_touchesBlack_79 : decode cX1_touchesBlack 79 = .ok (.iload_n 3, 1) := by decide +kernel
theorem dX1_touchesBlack_80 : decode cX1_touchesBlack 80 = .ok (.ireturn, 1) := by decide +kernel
theorem dX1_join_0 : decode cX1_join 0 = .ok (.iload_n 1, 1) := by decide +kernel
theorem dX1_join_1 : decode cX1_join 1 = .ok (.iload_n 2, 1) := by decide +kernel
theorem dX1_join_2 : decode cX1_join 2 = .ok (.if_icmp .gt 19, 3) := by decide +kernel
theorem dX1_join_5 : decode cX1_join 5 = .ok (.iload_n 1, 1) := by decide +kernel
theorem dX1_join_6 : decode cX1_join 6 = .ok (.iconst (-1), 1) := by decide +kernel
theorem dX1_join_7 : decode cX1_join 7 = .ok (.if_icmp .lt 14, 3) := by decide +kernel
theorem dX1_join_10 : decode cX1_join 10 = .ok (.iload_n 2, 1) := by decide +kernel
theorem dX1_join_11 : decode cX1_join 11 = .ok (.sipush 255, 3) := by decide +kernel
theorem dX1_join_14 : decode cX1_join 14 = .ok (.if_icmp .gt 7, 3) := by decide +kernel
theorem dX1_join_17 : decode cX1_join 17 = .ok (.iconst 1, 1) := by decide +kernel
theorem dX1_join_18 : decode cX1_join 18 = .ok (.goto 4, 3) := by decide +kernel
theorem dX1_join_21 : decode cX1_join 21 = .ok (.iconst 0, 1) := by decide +kernel
theorem dX1_join_22 : decode cX1_join 22 = .ok (.istore_n 3, 1) := by decide +kernel
theorem dX1_join_23 : decode cX1_join 23 = .ok (.aload_n 0, 1) := by decide +kernel
theorem dX1_join_24 : decode cX1_join 24 = .ok (.iload_n 3, 1) := by decide +kernel
theorem dX1_join_25 : decode cX1_join 25 = .ok (.ifCond .eq 7, 3) := by decide +kernel
theorem dX1_join_28 : decode cX1_join 28 = .ok (.iconst 0, 1) := by decide +kernel
theorem dX1_join_29 : decode cX1_join 29 = .ok (.goto 4, 3) := by decide +kernel
theorem dX1_join_32 : decode cX1_join 32 = .ok (.iconst 1, 1) := by decide +kernel
theorem dX1_join_33 : decode cX1_join 33 = .ok (.putfield 33, 3) := by decide +kernel
theorem dX1_join_36 : decode cX1_join 36 = .ok (.aload_n 0, 1) := by decide +kernel
theorem dX1_join_37 : decode cX1_join 37 = .ok (.getfield 33, 3) := by decide +kernel
theorem dX1_join_40 : decode cX1_join 40 = .ok (.ifCond .le 5, 3) := by decide +kernel
theorem dX1_join_43 : decode cX1_join 43 = .ok (.iconst 0, 1) := by decide +kernel
theorem dX1_join_44 : decode cX1_join 44 = .ok (.ireturn, 1) := by decide +kernel
theorem dX1_join_45 : decode cX1_join 45 = .ok (.iconst 0, 1) := by decide +kernel
theorem dX1_join_46 : decode cX1_join 46 = .ok (.istore 4, 2) := by decide +kernel
theorem dX1_join_48 : decode cX1_join 48 = .ok (.iload 4, 2) := by decide +kernel
theorem dX1_join_50 : decode cX1_join 50 = .ok (.aload_n 0, 1) := by decide +kernel
theorem dX1_join_51 : decode cX1_join 51 = .ok (.invokevirtual 40, 3) := by decide +kernel
theorem dX1_join_54 : decode cX1_join 54 = .ok (.if_icmp .ge 32, 3) := by decide +kernel
theorem dX1_join_57 : decode cX1_join 57 = .ok (.aload_n 0, 1) := by decide +kernel
theorem dX1_join_58 : decode cX1_join 58 = .ok (.getfield 13, 3) := by decide +kernel
theorem dX1_join_61 : decode cX1_join 61 = .ok (.iload 4, 2) := by decide +kernel
theorem dX1_join_63 : decode cX1_join 63 = .ok (.aload_n 0, 1) := by decide +kernel
theorem dX1_join_64 : decode cX1_join 64 = .ok (.getfield 7, 3) := by decide +kernel
theorem dX1_join_67 : decode cX1_join 67 = .ok (.iload 4, 2) := by decide +kernel
theorem dX1_join_69 : decode cX1_join 69 = .ok (.iaload, 1) := by decide +kernel
theorem dX1_join_70 : decode cX1_join 70 = .ok (.iload_n 1, 1) := by decide +kernel
theorem dX1_join_71 : decode cX1_join 71 = .ok (.if_icmp .gt 7, 3) := by decide +kernel
theorem dX1_join_74 : decode cX1_join 74 = .ok (.iconst 1, 1) := by decide +kernel
theorem dX1_join_75 : decode cX1_join 75 = .ok (.goto 4, 3) := by decide +kernel
theorem dX1_join_78 : decode cX1_join 78 = .ok (.iconst 0, 1) := by decide +kernel
theorem dX1_join_79 : decode cX1_join 79 = .ok (.bastore, 1) := by decide +kernel
theorem dX1_join_80 : decode cX1_join 80 = .ok (.iinc 4 1, 3) := by decide +kernel
theorem dX1_join_83 : decode cX1_join 83 = .ok (.goto (-35), 3) := by decide +kernel
theorem dX1_join_86 : decode cX1_join 86 = .ok (.iconst 1, 1) := by decide +kernel
theorem dX1_join_87 : decode cX1_join 87 = .ok (.istore 4, 2) := by decide +kernel
theorem dX1_join_89 : decode cX1_join 89 = .ok (.iload 4, 2) := by decide +kernel
theorem dX1_join_91 : decode cX1_join 91 = .ok (.ifCond .eq 80, 3) := by decide +kernel
theorem dX1_join_94 : decode cX1_join 94 = .ok (.iconst 0, 1) := by decide +kernel
theorem dX1_join_95 : decode cX1_join 95 = .ok (.istore 4, 2) := by decide +kernel
theorem dX1_join_97 : decode cX1_join 97 = .ok (.iconst 0, 1) := by decide +kernel
theorem dX1_join_98 : decode cX1_join 98 = .ok (.istore 5, 2) := by decide +kernel
theorem dX1_join_100 : decode cX1_join 100 = .ok (.iload 5, 2) := by decide +kernel
theorem dX1_join_102 : decode cX1_join 102 = .ok (.aload_n 0, 1) := by decide +kernel
theorem dX1_join_103 : decode cX1_join 103 = .ok (.invokevirtual 40, 3) := by decide +kernel
theorem dX1_join_106 : decode cX1_join 106 = .ok (.if_icmp .ge 62, 3) := by decide +kernel
theorem dX1_join_109 : decode cX1_join 109 = .ok (.aload_n 0, 1) := by decide +kernel
theorem dX1_join_110 : decode cX1_join 110 = .ok (.getfield 13, 3) := by decide +kernel
theorem dX1_join_113 : decode cX1_join 113 = .ok (.iload 5, 2) := by decide +kernel
theorem dX1_join_115 : decode cX1_join 115 = .ok (.baload, 1) := by decide +kernel
theorem dX1_join_116 : decode cX1_join 116 = .ok (.ifCond .ne 46, 3) := by decide +kernel
theorem dX1_join_119 : decode cX1_join 119 = .ok (.aload_n 0, 1) := by decide +kernel
theorem dX1_join_120 : decode cX1_join 120 = .ok (.getfield 7, 3) := by decide +kernel
theorem dX1_join_123 : decode cX1_join 123 = .ok (.iload 5, 2) := by decide +kernel
theorem dX1_join_125 : decode cX1_join 125 = .ok (.iaload, 1) := by decide +kernel
theorem dX1_join_126 : decode cX1_join 126 = .ok (.iload_n 2, 1) := by decide +kernel
theorem dX1_join_127 : decode cX1_join 127 = .ok (.if_icmp .gt 35, 3) := by decide +kernel
theorem dX1_join_130 : decode cX1_join 130 = .ok (.aload_n 0, 1) := by decide +kernel
theorem dX1_join_131 : decode cX1_join 131 = .ok (.iload 5, 2) := by decide +kernel
theorem dX1_join_133 : decode cX1_join 133 = .ok (.aload_n 0, 1) := by decide +kernel
theorem dX1_join_134 : decode cX1_join 134 = .ok (.getfield 26, 3) := by decide +kernel
theorem dX1_join_137 : decode cX1_join 137 = .ok (.irem, 1) := by decide +kernel
theorem dX1_join_138 : decode cX1_join 138 = .ok (.iload 5, 2) := by decide +kernel
theorem dX1_join_140 : decode cX1_join 140 = .ok (.aload_n 0, 1) := by decide +kernel
theorem dX1_join_141 : decode cX1_join 141 = .ok (.getfield 26, 3) := by decide +kernel
theorem dX1_join_144 : decode cX1_join 144 = .ok (.idiv, 1) := by decide +kernel
theorem dX1_join_145 : decode cX1_join 145 = .ok (.invokevirtual 71, 3) := by decide +kernel
theorem dX1_join_148 : decode cX1_join 148 = .ok (.ifCond .eq 14, 3) := by decide +kernel
theorem dX1_join_151 : decode cX1_join 151 = .ok (.aload_n 0, 1) := by decide +kernel
theorem dX1_join_152 : decode cX1_join 152 = .ok (.getfield 13, 3) := by decide +kernel
theorem dX1_join_155 : decode cX1_join 155 = .ok (.iload 5, 2) := by decide +kernel
theorem dX1_join_157 : decode cX1_join 157 = .ok (.iconst 1, 1) := by decide +kernel
theorem dX1_join_158 : decode cX1_join 158 = .ok (.bastore, 1) := by decide +kernel
theorem dX1_join_159 : decode cX1_join 159 = .ok (.iconst 1, 1) := by decide +kernel
theorem dX1_join_160 : decode cX1_join 160 = .ok (.istore 4, 2) := by decide +kernel
theorem dX1_join_162 : decode cX1_join 162 = .ok (.iinc 5 1, 3) := by decide +kernel
theorem dX1_join_165 : decode cX1_join 165 = .ok (.goto (-65), 3) := by decide +kernel
theorem dX1_join_168 : decode cX1_join 168 = .ok (.goto (-79), 3) := by decide +kernel
theorem dX1_join_171 : decode cX1_join 171 = .ok (.aload_n 0, 1) := by decide +kernel
theorem dX1_join_172 : decode cX1_join 172 = .ok (.invokevirtual 52, 3) := by decide +kernel
theorem dX1_join_175 : decode cX1_join 175 = .ok (.ireturn, 1) := by decide +kernel
theorem dX1_lesser_0 : decode cX1_lesser 0 = .ok (.aload_n 0, 1) := by decide +kernel
theorem dX1_lesser_1 : decode cX1_lesser 1 = .ok (.iload_n 2, 1) := by decide +kernel
theorem dX1_lesser_2 : decode cX1_lesser 2 = .ok (.iload_n 3, 1) := by decide +kernel
theorem dX1_lesser_3 : decode cX1_lesser 3 = .ok (.invokevirtual 36, 3) := by decide +kernel
theorem dX1_lesser_6 : decode cX1_lesser 6 = .ok (.ifCond .eq 21, 3) := by decide +kernel
theorem dX1_lesser_9 : decode cX1_lesser 9 = .ok (.aload_n 0, 1) := by decide +kernel
theorem dX1_lesser_10 : decode cX1_lesser 10 = .ok (.getfield 13, 3) := by decide +kernel
theorem dX1_lesser_13 : decode cX1_lesser 13 = .ok (.aload_n 0, 1) := by decide +kernel
theorem dX1_lesser_14 : decode cX1_lesser 14 = .ok (.getfield 26, 3) := by decide +kernel
theorem dX1_lesser_17 : decode cX1_lesser 17 = .ok (.iload_n 3, 1) := by decide +kernel
theorem dX1_lesser_18 : decode cX1_lesser 18 = .ok (.imul, 1) := by decide +kernel
theorem dX1_lesser_19 : decode cX1_lesser 19 = .ok (.iload_n 2, 1) := by decide +kernel
theorem dX1_lesser_20 : decode cX1_lesser 20 = .ok (.iadd, 1) := by decide +kernel
theorem dX1_lesser_21 : decode cX1_lesser 21 = .ok (.baload, 1) := by decide +kernel
theorem dX1_lesser_22 : decode cX1_lesser 22 = .ok (.iload 4, 2) := by decide +kernel
theorem dX1_lesser_24 : decode cX1_lesser 24 = .ok (.if_icmp .eq 5, 3) := by decide +kernel
theorem dX1_lesser_27 : decode cX1_lesser 27 = .ok (.iload_n 1, 1) := by decide +kernel
theorem dX1_lesser_28 : decode cX1_lesser 28 = .ok (.ireturn, 1) := by decide +kernel
theorem dX1_lesser_29 : decode cX1_lesser 29 = .ok (.aload_n 0, 1) := by decide +kernel
theorem dX1_lesser_30 : decode cX1_lesser 30 = .ok (.getfield 23, 3) := by decide +kernel
theorem dX1_lesser_33 : decode cX1_lesser 33 = .ok (.aload_n 0, 1) := by decide +kernel
theorem dX1_lesser_34 : decode cX1_lesser 34 = .ok (.getfield 26, 3) := by decide +kernel
theorem dX1_lesser_37 : decode cX1_lesser 37 = .ok (.iload_n 3, 1) := by decide +kernel
theorem dX1_lesser_38 : decode cX1_lesser 38 = .ok (.imul, 1) := by decide +kernel
theorem dX1_lesser_39 : decode cX1_lesser 39 = .ok (.iload_n 2, 1) := by decide +kernel
theorem dX1_lesser_40 : decode cX1_lesser 40 = .ok (.iadd, 1) := by decide +kernel
theorem dX1_lesser_41 : decode cX1_lesser 41 = .ok (.iaload, 1) := by decide +kernel
theorem dX1_lesser_42 : decode cX1_lesser 42 = .ok (.iload_n 1, 1) := by decide +kernel
theorem dX1_lesser_43 : decode cX1_lesser 43 = .ok (.if_icmp .ge 19, 3) := by decide +kernel
theorem dX1_lesser_46 : decode cX1_lesser 46 = .ok (.aload_n 0, 1) := by decide +kernel
theorem dX1_lesser_47 : decode cX1_lesser 47 = .ok (.getfield 23, 3) := by decide +kernel
theorem dX1_lesser_50 : decode cX1_lesser 50 = .ok (.aload_n 0, 1) := by decide +kernel
theorem dX1_lesser_51 : decode cX1_lesser 51 = .ok (.getfield 26, 3) := by decide +kernel
theorem dX1_lesser_54 : decode cX1_lesser 54 = .ok (.iload_n 3, 1) := by decide +kernel
theorem dX1_lesser_55 : decode cX1_lesser 55 = .ok (.imul, 1) := by decide +kernel
theorem dX1_lesser_56 : decode cX1_lesser 56 = .ok (.iload_n 2, 1) := by decide +kernel
theorem dX1_lesser_57 : decode cX1_lesser 57 = .ok (.iadd, 1) := by decide +kernel
theorem dX1_lesser_58 : decode cX1_lesser 58 = .ok (.iaload, 1) := by decide +kernel
theorem dX1_lesser_59 : decode cX1_lesser 59 = .ok (.goto 4, 3) := by decide +kernel
theorem dX1_lesser_62 : decode cX1_lesser 62 = .ok (.iload_n 1, 1) := by decide +kernel
theorem dX1_lesser_63 : decode cX1_lesser 63 = .ok (.ireturn, 1) := by decide +kernel
theorem dX1_findParts_0 : decode cX1_findParts 0 = .ok (.iconst 0, 1) := by decide +kernel
theorem dX1_findParts_1 : decode cX1_findParts 1 = .ok (.istore_n 2, 1) := by decide +kernel
theorem dX1_findParts_2 : decode cX1_findParts 2 = .ok (.iload_n 2, 1) := by decide +kernel
theorem dX1_findParts_3 : decode cX1_findParts 3 = .ok (.aload_n 0, 1) := by decide +kernel
theorem dX1_findParts_4 : decode cX1_findParts 4 = .ok (.invokevirtual 40, 3) := by decide +kernel
theorem dX1_findParts_7 : decode cX1_findParts 7 = .ok (.if_icmp .ge 30, 3) := by decide +kernel
theorem dX1_findParts_10 : decode cX1_findParts 10 = .ok (.aload_n 0, 1) := by decide +kernel
theorem dX1_findParts_11 : decode cX1_findParts 11 = .ok (.getfield 23, 3) := by decide +kernel
theorem dX1_findParts_14 : decode cX1_findParts 14 = .ok (.iload_n 2, 1) := by decide +kernel
theorem dX1_findParts_15 : decode cX1_findParts 15 = .ok (.aload_n 0, 1) := by decide +kernel
theorem dX1_findParts_16 : decode cX1_findParts 16 = .ok (.getfield 13, 3) := by decide +kernel
theorem dX1_findParts_19 : decode cX1_findParts 19 = .ok (.iload_n 2, 1) := by decide +kernel
theorem dX1_findParts_20 : decode cX1_findParts 20 = .ok (.baload, 1) := by decide +kernel
theorem dX1_findParts_21 : decode cX1_findParts 21 = .ok (.iload_n 1, 1) := by decide +kernel
theorem dX1_findParts_22 : decode cX1_findParts 22 = .ok (.if_icmp .ne 7, 3) := by decide +kernel
theorem dX1_findParts_25 : decode cX1_findParts 25 = .ok (.iload_n 2, 1) := by decide +kernel
theorem dX1_findParts_26 : decode cX1_findParts 26 = .ok (.goto 4, 3) := by decide +kernel
theorem dX1_findParts_29 : decode cX1_findParts 29 = .ok (.iconst (-1), 1) := by decide +kernel
theorem dX1_findParts_30 : decode cX1_findParts 30 = .ok (.iastore, 1) := by decide +kernel
theorem dX1_findParts_31 : decode cX1_findParts 31 = .ok (.iinc 2 1, 3) := by decide +kernel
theorem dX1_findParts_34 : decode cX1_findParts 34 = .ok (.goto (-32), 3) := by decide +kernel
theorem dX1_findParts_37 : decode cX1_findParts 37 = .ok (.iconst 1, 1) := by decide +kernel
theorem dX1_findParts_38 : decode cX1_findParts 38 = .ok (.istore_n 2, 1) := by decide +kernel
theorem dX1_findParts_39 : decode cX1_findParts 39 = .ok (.iload_n 2, 1) := by decide +kernel
theorem dX1_findParts_40 : decode cX1_findParts 40 = .ok (.ifCond .eq 143, 3) := by decide +kernel
theorem dX1_findParts_43 : decode cX1_findParts 43 = .ok (.iconst 0, 1) := by decide +kernel
theorem dX1_findParts_44 : decode cX1_findParts 44 = .ok (.istore_n 2, 1) := by decide +kernel
theorem dX1_findParts_45 : decode cX1_findParts 45 = .ok (.iconst 0, 1) := by decide +kernel
theorem dX1_findParts_46 : decode cX1_findParts 46 = .ok (.istore_n 3, 1) := by decide +kernel
theorem dX1_findParts_47 : decode cX1_findParts 47 = .ok (.iload_n 3, 1) := by decide +kernel
theorem dX1_findParts_48 : decode cX1_findParts 48 = .ok (.aload_n 0, 1) := by decide +kernel
theorem dX1_findParts_49 : decode cX1_findParts 49 = .ok (.invokevirtual 40, 3) := by decide +kernel
theorem dX1_findParts_52 : decode cX1_findParts 52 = .ok (.if_icmp .ge 128, 3) := by decide +kernel
theorem dX1_findParts_55 : decode cX1_findParts 55 = .ok (.aload_n 0, 1) := by decide +kernel
theorem dX1_findParts_56 : decode cX1_findParts 56 = .ok (.getfield 23, 3) := by decide +kernel
theorem dX1_findParts_59 : decode cX1_findParts 59 = .ok (.iload_n 3, 1) := by decide +kernel
theorem dX1_findParts_60 : decode cX1_findParts 60 = .ok (.iaload, 1) := by decide +kernel
theorem dX1_findParts_61 : decode cX1_findParts 61 = .ok (.iconst (-1), 1) := by decide +kernel
theorem dX1_findParts_62 : decode cX1_findParts 62 = .ok (.if_icmp .eq 112, 3) := by decide +kernel
theorem dX1_findParts_65 : decode cX1_findParts 65 = .ok (.iload_n 3, 1) := by decide +kernel
theorem dX1_findParts_66 : decode cX1_findParts 66 = .ok (.aload_n 0, 1) := by decide +kernel
theorem dX1_findParts_67 : decode cX1_findParts 67 = .ok (.getfield 26, 3) := by decide +kernel
theorem dX1_findParts_70 : decode cX1_findParts 70 = .ok (.irem, 1) := by decide +kernel
theorem dX1_findParts_71 : decode cX1_findParts 71 = .ok (.istore 4, 2) := by decide +kernel
theorem dX1_findParts_73 : decode cX1_findParts 73 = .ok (.iload_n 3, 1) := by decide +kernel
theorem dX1_findParts_74 : decode cX1_findParts 74 = .ok (.aload_n 0, 1) := by decide +kernel
theorem dX1_findParts_75 : decode cX1_findParts 75 = .ok (.getfield 26, 3) := by decide +kernel
theorem dX1_findParts_78 : decode cX1_findParts 78 = .ok (.idiv, 1) := by decide +kernel
theorem dX1_findParts_79 : decode cX1_findParts 79 = .ok (.istore 5, 2) := by decide +kernel
theorem dX1_findParts_81 : decode cX1_findParts 81 = .ok (.aload_n 0, 1) := by decide +kernel
theorem dX1_findParts_82 : decode cX1_findParts 82 = .ok (.aload_n 0, 1) := by decide +kernel
theorem dX1_findParts_83 : decode cX1_findParts 83 = .ok (.getfield 23, 3) := by decide +kernel
theorem dX1_findParts_86 : decode cX1_findParts 86 = .ok (.iload_n 3, 1) := by decide +kernel
theorem dX1_findParts_87 : decode cX1_findParts 87 = .ok (.iaload, 1) := by decide +kernel
theorem dX1_findParts_88 : decode cX1_findParts 88 = .ok (.iload 4, 2) := by decide +kernel
theorem dX1_findParts_90 : decode cX1_findParts 90 = .ok (.iconst 1, 1) := by decide +kernel
theorem dX1_findParts_91 : decode cX1_findParts 91 = .ok (.isub, 1) := by decide +kernel
theorem dX1_findParts_92 : decode cX1_findParts 92 = .ok (.iload 5, 2) := by decide +kernel
theorem dX1_findParts_94 : decode cX1_findParts 94 = .ok (.iload_n 1, 1) := by decide +kernel
theorem dX1_findParts_95 : decode cX1_findParts 95 = .ok (.invokevirtual 74, 3) := by decide +kernel
theorem dX1_findParts_98 : decode cX1_findParts 98 = .ok (.istore 6, 2) := by decide +kernel
theorem dX1_findParts_100 : decode cX1_findParts 100 = .ok (.aload_n 0, 1) := by decide +kernel
theorem dX1_findParts_101 : decode cX1_findParts 101 = .ok (.iload 6, 2) := by decide +kernel
theorem dX1_findParts_103 : decode cX1_findParts 103 = .ok (.iload 4, 2) := by decide +kernel
theorem dX1_findParts_105 : decode cX1_findParts 105 = .ok (.iconst 1, 1) := by decide +kernel
theorem dX1_findParts_106 : decode cX1_findParts 106 = .ok (.iadd, 1) := by decide +kernel
theorem dX1_findParts_107 : decode cX1_findParts 107 = .ok (.iload 5, 2) := by decide +kernel
theorem dX1_findParts_109 : decode cX1_findParts 109 = .ok (.iload_n 1, 1) := by decide +kernel
theorem dX1_findParts_110 : decode cX1_findParts 110 = .ok (.invokevirtual 74, 3) := by decide +kernel
theorem dX1_findParts_113 : decode cX1_findParts 113 = .ok (.istore 6, 2) := by decide +kernel
theorem dX1_findParts_115 : decode cX1_findParts 115 = .ok (.aload_n 0, 1) := by decide +kernel
theorem dX1_findParts_116 : decode cX1_findParts 116 = .ok (.iload 6, 2) := by decide +kernel
theorem dX1_findParts_118 : decode cX1_findParts 118 = .ok (.iload 4, 2) := by decide +kernel
theorem dX1_findParts_120 : decode cX1_findParts 120 = .ok (.iload 5, 2) := by decide +kernel
theorem dX1_findParts_122 : decode cX1_findParts 122 = .ok (.iconst 1, 1) := by decide +kernel
theorem dX1_findParts_123 : decode cX1_findParts 123 = .ok (.isub, 1) := by decide +kernel
theorem dX1_findParts_124 : decode cX1_findParts 124 = .ok (.iload_n 1, 1) := by decide +kernel
theorem dX1_findParts_125 : decode cX1_findParts 125 = .ok (.invokevirtual 74, 3) := by decide +kernel
theorem dX1_findParts_128 : decode cX1_findParts 128 = .ok (.istore 6, 2) := by decide +kernel
theorem dX1_findParts_130 : decode cX1_findParts 130 = .ok (.aload_n 0, 1) := by decide +kernel
theorem dX1_findParts_131 : decode cX1_findParts 131 = .ok (.iload 6, 2) := by decide +kernel
theorem dX1_findParts_133 : decode cX1_findParts 133 = .ok (.iload 4, 2) := by decide +kernel
theorem dX1_findParts_135 : decode cX1_findParts 135 = .ok (.iload 5, 2) := by decide +kernel
theorem dX1_findParts_137 : decode cX1_findParts 137 = .ok (.iconst 1, 1) := by decide +kernel
theorem dX1_findParts_138 : decode cX1_findParts 138 = .ok (.iadd, 1) := by decide +kernel
theorem dX1_findParts_139 : decode cX1_findParts 139 = .ok (.iload_n 1, 1) := by decide +kernel
theorem dX1_findParts_140 : decode cX1_findParts 140 = .ok (.invokevirtual 74, 3) := by decide +kernel
theorem dX1_findParts_143 : decode cX1_findParts 143 = .ok (.istore 6, 2) := by decide +kernel
theorem dX1_findParts_145 : decode cX1_findParts 145 = .ok (.iload_n 2, 1) := by decide +kernel
theorem dX1_findParts_146 : decode cX1_findParts 146 = .ok (.ifCond .ne 14, 3) := by decide +kernel
theorem dX1_findParts_149 : decode cX1_findParts 149 = .ok (.iload 6, 2) := by decide +kernel
theorem dX1_findParts_151 : decode cX1_findParts 151 = .ok (.aload_n 0, 1) := by decide +kernel
theorem dX1_findParts_152 : decode cX1_findParts 152 = .ok (.getfield 23, 3) := by decide +kernel
theorem dX1_findParts_155 : decode cX1_findParts 155 = .ok (.iload_n 3, 1) := by decide +kernel
theorem dX1_findParts_156 : decode cX1_findParts 156 = .ok (.iaload, 1) := by decide +kernel
theorem dX1_findParts_157 : decode cX1_findParts 157 = .ok (.if_icmp .ge 7, 3) := by decide +kernel
theorem dX1_findParts_160 : decode cX1_findParts 160 = .ok (.iconst 1, 1) := by decide +kernel
theorem dX1_findParts_161 : decode cX1_findParts 161 = .ok (.goto 4, 3) := by decide +kernel
theorem dX1_findParts_164 : decode cX1_findParts 164 = .ok (.iconst 0, 1) := by decide +kernel
theorem dX1_findParts_165 : decode cX1_findParts 165 = .ok (.istore_n 2, 1) := by decide +kernel
theorem dX1_findParts_166 : decode cX1_findParts 166 = .ok (.aload_n 0, 1) := by decide +kernel
theorem dX1_findParts_167 : decode cX1_findParts 167 = .ok (.getfield 23, 3) := by decide +kernel
theorem dX1_findParts_170 : decode cX1_findParts 170 = .ok (.iload_n 3, 1) := by decide +kernel
theorem dX1_findParts_171 : decode cX1_findParts 171 = .ok (.iload 6, 2) := by decide +kernel
theorem dX1_findParts_173 : decode cX1_findParts 173 = .ok (.iastore, 1) := by decide +kernel
theorem dX1_findParts_174 : decode cX1_findParts 174 = .ok (.iinc 3 1, 3) := by decide +kernel
theorem dX1_findParts_177 : decode cX1_findParts 177 = .ok (.goto (-130), 3) := by decide +kernel
theorem dX1_findParts_180 : decode cX1_findParts 180 = .ok (.goto (-141), 3) := by decide +kernel
theorem dX1_findParts_183 : decode cX1_findParts 183 = .ok (.return_, 1) := by decide +kernel
theorem dX1_turnSpecks_0 : decode cX1_turnSpecks 0 = .ok (.aload_n 0, 1) := by decide +kernel
theorem dX1_turnSpecks_1 : decode cX1_turnSpecks 1 = .ok (.iload_n 1, 1) := by decide +kernel
theorem dX1_turnSpecks_2 : decode cX1_turnSpecks 2 = .ok (.invokevirtual 78, 3) := by decide +kernel
theorem dX1_turnSpecks_5 : decode cX1_turnSpecks 5 = .ok (.iconst 0, 1) := by decide +kernel
theorem dX1_turnSpecks_6 : decode cX1_turnSpecks 6 = .ok (.istore_n 3, 1) := by decide +kernel
theorem dX1_turnSpecks_7 : decode cX1_turnSpecks 7 = .ok (.iconst 0, 1) := by decide +kernel
theorem dX1_turnSpecks_8 : decode cX1_turnSpecks 8 = .ok (.istore 4, 2) := by decide +kernel
theorem dX1_turnSpecks_10 : decode cX1_turnSpecks 10 = .ok (.iload 4, 2) := by decide +kernel
theorem dX1_turnSpecks_12 : decode cX1_turnSpecks 12 = .ok (.aload_n 0, 1) := by decide +kernel
theorem dX1_turnSpecks_13 : decode cX1_turnSpecks 13 = .ok (.invokevirtual 40, 3) := by decide +kernel
theorem dX1_turnSpecks_16 : decode cX1_turnSpecks 16 = .ok (.if_icmp .ge 232, 3) := by decide +kernel
theorem dX1_turnSpecks_19 : decode cX1_turnSpecks 19 = .ok (.iconst 0, 1) := by decide +kernel
theorem dX1_turnSpecks_20 : decode cX1_turnSpecks 20 = .ok (.istore 5, 2) := by decide +kernel
theorem dX1_turnSpecks_22 : decode cX1_turnSpecks 22 = .ok (.iconst 0, 1) := by decide +kernel
theorem dX1_turnSpecks_23 : decode cX1_turnSpecks 23 = .ok (.istore 6, 2) := by decide +kernel
theorem dX1_turnSpecks_25 : decode cX1_turnSpecks 25 = .ok (.iconst 0, 1) := by decide +kernel
theorem dX1_turnSpecks_26 : decode cX1_turnSpecks 26 = .ok (.istore 7, 2) := by decide +kernel
theorem dX1_turnSpecks_28 : decode cX1_turnSpecks 28 = .ok (.iload 7, 2) := by decide +kernel
theorem dX1_turnSpecks_30 : decode cX1_turnSpecks 30 = .ok (.aload_n 0, 1) := by decide +kernel
theorem dX1_turnSpecks_31 : decode cX1_turnSpecks 31 = .ok (.invokevirtual 40, 3) := by decide +kernel
theorem dX1_turnSpecks_34 : decode cX1_turnSpecks 34 = .ok (.if_icmp .ge 106, 3) := by decide +kernel
theorem dX1_turnSpecks_37 : decode cX1_turnSpecks 37 = .ok (.aload_n 0, 1) := by decide +kernel
theorem dX1_turnSpecks_38 : decode cX1_turnSpecks 38 = .ok (.getfield 23, 3) := by decide +kernel
theorem dX1_turnSpecks_41 : decode cX1_turnSpecks 41 = .ok (.iload 7, 2) := by decide +kernel
theorem dX1_turnSpecks_43 : decode cX1_turnSpecks 43 = .ok (.iaload, 1) := by decide +kernel
theorem dX1_turnSpecks_44 : decode cX1_turnSpecks 44 = .ok (.iload 4, 2) := by decide +kernel
theorem dX1_turnSpecks_46 : decode cX1_turnSpecks 46 = .ok (.if_icmp .ne 10, 3) := by decide +kernel
theorem dX1_turnSpecks_49 : decode cX1_turnSpecks 49 = .ok (.iload 5, 2) := by decide +kernel
theorem dX1_turnSpecks_51 : decode cX1_turnSpecks 51 = .ok (.iconst 1, 1) := by decide +kernel
theorem dX1_turnSpecks_52 : decode cX1_turnSpecks 52 = .ok (.iadd, 1) := by decide +kernel
theorem dX1_turnSpecks_53 : decode cX1_turnSpecks 53 = .ok (.goto 5, 3) := by decide +kernel
theorem dX1_turnSpecks_56 : decode cX1_turnSpecks 56 = .ok (.iload 5, 2) := by decide +kernel
theorem dX1_turnSpecks_58 : decode cX1_turnSpecks 58 = .ok (.istore 5, 2) := by decide +kernel
theorem dX1_turnSpecks_60 : decode cX1_turnSpecks 60 = .ok (.iload 7, 2) := by decide +kernel
theorem dX1_turnSpecks_62 : decode cX1_turnSpecks 62 = .ok (.aload_n 0, 1) := by decide +kernel
theorem dX1_turnSpecks_63 : decode cX1_turnSpecks 63 = .ok (.getfield 26, 3) := by decide +kernel
theorem dX1_turnSpecks_66 : decode cX1_turnSpecks 66 = .ok (.irem, 1) := by decide +kernel
theorem dX1_turnSpecks_67 : decode cX1_turnSpecks 67 = .ok (.istore 8, 2) := by decide +kernel
theorem dX1_turnSpecks_69 : decode cX1_turnSpecks 69 = .ok (.iload 7, 2) := by decide +kernel
theorem dX1_turnSpecks_71 : decode cX1_turnSpecks 71 = .ok (.aload_n 0, 1) := by decide +kernel
theorem dX1_turnSpecks_72 : decode cX1_turnSpecks 72 = .ok (.getfield 26, 3) := by decide +kernel
theorem dX1_turnSpecks_75 : decode cX1_turnSpecks 75 = .ok (.idiv, 1) := by decide +kernel
theorem dX1_turnSpecks_76 : decode cX1_turnSpecks 76 = .ok (.istore 9, 2) := by decide +kernel
theorem dX1_turnSpecks_78 : decode cX1_turnSpecks 78 = .ok (.iload 6, 2) := by decide +kernel
theorem dX1_turnSpecks_80 : decode cX1_turnSpecks 80 = .ok (.ifCond .ne 47, 3) := by decide +kernel
theorem dX1_turnSpecks_83 : decode cX1_turnSpecks 83 = .ok (.aload_n 0, 1) := by decide +kernel
theorem dX1_turnSpecks_84 : decode cX1_turnSpecks 84 = .ok (.getfield 23, 3) := by decide +kernel
theorem dX1_turnSpecks_87 : decode cX1_turnSpecks 87 = .ok (.iload 7, 2) := by decide +kernel
theorem dX1_turnSpecks_89 : decode cX1_turnSpecks 89 = .ok (.iaload, 1) := by decide +kernel
theorem dX1_turnSpecks_90 : decode cX1_turnSpecks 90 = .ok (.iload 4, 2) := by decide +kernel
theorem dX1_turnSpecks_92 : decode cX1_turnSpecks 92 = .ok (.if_icmp .ne 39, 3) := by decide +kernel
theorem dX1_turnSpecks_95 : decode cX1_turnSpecks 95 = .ok (.iload 8, 2) := by decide +kernel
theorem dX1_turnSpecks_97 : decode cX1_turnSpecks 97 = .ok (.ifCond .eq 30, 3) := by decide +kernel
theorem dX1_turnSpecks_100 : decode cX1_turnSpecks 100 = .ok (.iload 9, 2) := by decide +kernel
theorem dX1_turnSpecks_102 : decode cX1_turnSpecks 102 = .ok (.ifCond .eq 25, 3) := by decide +kernel
theorem dX1_turnSpecks_105 : decode cX1_turnSpecks 105 = .ok (.iload 8, 2) := by decide +kernel
theorem dX1_turnSpecks_107 : decode cX1_turnSpecks 107 = .ok (.aload_n 0, 1) := by decide +kernel
theorem dX1_turnSpecks_108 : decode cX1_turnSpecks 108 = .ok (.getfield 26, 3) := by decide +kernel
theorem dX1_turnSpecks_111 : decode cX1_turnSpecks 111 = .ok (.iconst 1, 1) := by decide +kernel
theorem dX1_turnSpecks_112 : decode cX1_turnSpecks 112 = .ok (.isub, 1) := by decide +kernel
theorem dX1_turnSpecks_113 : decode cX1_turnSpecks 113 = .ok (.if_icmp .eq 14, 3) := by decide +kernel
theorem dX1_turnSpecks_116 : decode cX1_turnSpecks 116 = .ok (.iload 9, 2) := by decide +kernel
theorem dX1_turnSpecks_118 : decode cX1_turnSpecks 118 = .ok (.aload_n 0, 1) := by decide +kernel
theorem dX1_turnSpecks_119 : decode cX1_turnSpecks 119 = .ok (.getfield 30, 3) := by decide +kernel
theorem dX1_turnSpecks_122 : decode cX1_turnSpecks 122 = .ok (.iconst 1, 1) := by decide +kernel
theorem dX1_turnSpecks_123 : decode cX1_turnSpecks 123 = .ok (.isub, 1) := by decide +kernel
theorem dX1_turnSpecks_124 : decode cX1_turnSpecks 124 = .ok (.if_icmp .ne 7, 3) := by decide +kernel
theorem dX1_turnSpecks_127 : decode cX1_turnSpecks 127 = .ok (.iconst 1, 1) := by decide +kernel
theorem dX1_turnSpecks_128 : decode cX1_turnSpecks 128 = .ok (.goto 4, 3) := by decide +kernel
theorem dX1_turnSpecks_131 : decode cX1_turnSpecks 131 = .ok (.iconst 0, 1) := by decide +kernel
theorem dX1_turnSpecks_132 : decode cX1_turnSpecks 132 = .ok (.istore 6, 2) := by decide +kernel
theorem dX1_turnSpecks_134 : decode cX1_turnSpecks 134 = .ok (.iinc 7 1, 3) := by decide +kernel
theorem dX1_turnSpecks_137 : decode cX1_turnSpecks 137 = .ok (.goto (-109), 3) := by decide +kernel
theorem dX1_turnSpecks_140 : decode cX1_turnSpecks 140 = .ok (.iload 5, 2) := by decide +kernel
theorem dX1_turnSpecks_142 : decode cX1_turnSpecks 142 = .ok (.ifCond .le 22, 3) := by decide +kernel
theorem dX1_turnSpecks_145 : decode cX1_turnSpecks 145 = .ok (.iload 5, 2) := by decide +kernel
theorem dX1_turnSpecks_147 : decode cX1_turnSpecks 147 = .ok (.iload_n 2, 1) := by decide +kernel
theorem dX1_turnSpecks_148 : decode cX1_turnSpecks 148 = .ok (.if_icmp .gt 16, 3) := by decide +kernel
theorem dX1_turnSpecks_151 : decode cX1_turnSpecks 151 = .ok (.iload_n 1, 1) := by decide +kernel
theorem dX1_turnSpecks_152 : decode cX1_turnSpecks 152 = .ok (.ifCond .ne 8, 3) := by decide +kernel
theorem dX1_turnSpecks_155 : decode cX1_turnSpecks 155 = .ok (.iload 6, 2) := by decide +kernel
theorem dX1_turnSpecks_157 : decode cX1_turnSpecks 157 = .ok (.ifCond .ne 7, 3) := by decide +kernel
theorem dX1_turnSpecks_160 : decode cX1_turnSpecks 160 = .ok (.iconst 1, 1) := by decide +kernel
theorem dX1_turnSpecks_161 : decode cX1_turnSpecks 161 = .ok (.goto 4, 3) := by decide +kernel
theorem dX1_turnSpecks_164 : decode cX1_turnSpecks 164 = .ok (.iconst 0, 1) := by decide +kernel
theorem dX1_turnSpecks_165 : decode cX1_turnSpecks 165 = .ok (.istore 7, 2) := by decide +kernel
theorem dX1_turnSpecks_167 : decode cX1_turnSpecks 167 = .ok (.iconst 0, 1) := by decide +kernel
theorem dX1_turnSpecks_168 : decode cX1_turnSpecks 168 = .ok (.istore 8, 2) := by decide +kernel
theorem dX1_turnSpecks_170 : decode cX1_turnSpecks 170 = .ok (.iload 8, 2) := by decide +kernel
theorem dX1_turnSpecks_172 : decode cX1_turnSpecks 172 = .ok (.aload_n 0, 1) := by decide +kernel
theorem dX1_turnSpecks_173 : decode cX1_turnSpecks 173 = .ok (.invokevirtual 40, 3) := by decide +kernel
theorem dX1_turnSpecks_176 : decode cX1_turnSpecks 176 = .ok (.if_icmp .ge 52, 3) := by decide +kernel
theorem dX1_turnSpecks_179 : decode cX1_turnSpecks 179 = .ok (.iload 7, 2) := by decide +kernel
theorem dX1_turnSpecks_181 : decode cX1_turnSpecks 181 = .ok (.ifCond .eq 47, 3) := by decide +kernel
theorem dX1_turnSpecks_184 : decode cX1_turnSpecks 184 = .ok (.aload_n 0, 1) := by decide +kernel
theorem dX1_turnSpecks_185 : decode cX1_turnSpecks 185 = .ok (.getfield 13, 3) := by decide +kernel
theorem dX1_turnSpecks_188 : decode cX1_turnSpecks 188 = .ok (.iload 8, 2) := by decide +kernel
theorem dX1_turnSpecks_190 : decode cX1_turnSpecks 190 = .ok (.aload_n 0, 1) := by decide +kernel
theorem dX1_turnSpecks_191 : decode cX1_turnSpecks 191 = .ok (.getfield 23, 3) := by decide +kernel
theorem dX1_turnSpecks_194 : decode cX1_turnSpecks 194 = .ok (.iload 8, 2) := by decide +kernel
theorem dX1_turnSpecks_196 : decode cX1_turnSpecks 196 = .ok (.iaload, 1) := by decide +kernel
theorem dX1_turnSpecks_197 : decode cX1_turnSpecks 197 = .ok (.iload 4, 2) := by decide +kernel
theorem dX1_turnSpecks_199 : decode cX1_turnSpecks 199 = .ok (.if_icmp .ne 15, 3) := by decide +kernel
theorem dX1_turnSpecks_202 : decode cX1_turnSpecks 202 = .ok (.iload_n 1, 1) := by decide +kernel
theorem dX1_turnSpecks_203 : decode cX1_turnSpecks 203 = .ok (.ifCond .ne 7, 3) := by decide +kernel
theorem dX1_turnSpecks_206 : decode cX1_turnSpecks 206 = .ok (.iconst 1, 1) := by decide +kernel
theorem dX1_turnSpecks_207 : decode cX1_turnSpecks 207 = .ok (.goto 14, 3) := by decide +kernel
theorem dX1_turnSpecks_210 : decode cX1_turnSpecks 210 = .ok (.iconst 0, 1) := by decide +kernel
theorem dX1_turnSpecks_211 : decode cX1_turnSpecks 211 = .ok (.goto 10, 3) := by decide +kernel
theorem dX1_turnSpecks_214 : decode cX1_turnSpecks 214 = .ok (.aload_n 0, 1) := by decide +kernel
theorem dX1_turnSpecks_215 : decode cX1_turnSpecks 215 = .ok (.getfield 13, 3) := by decide +kernel
theorem dX1_turnSpecks_218 : decode cX1_turnSpecks 218 = .ok (.iload 8, 2) := by decide +kernel
theorem dX1_turnSpecks_220 : decode cX1_turnSpecks 220 = .ok (.baload, 1) := by decide +kernel
theorem dX1_turnSpecks_221 : decode cX1_turnSpecks 221 = .ok (.bastore, 1) := by decide +kernel
theorem dX1_turnSpecks_222 : decode cX1_turnSpecks 222 = .ok (.iinc 8 1, 3) := by decide +kernel
theorem dX1_turnSpecks_225 : decode cX1_turnSpecks 225 = .ok (.goto (-55), 3) := by decide +kernel
theorem dX1_turnSpecks_228 : decode cX1_turnSpecks 228 = .ok (.iload 7, 2) := by decide +kernel
theorem dX1_turnSpecks_230 : decode cX1_turnSpecks 230 = .ok (.ifCond .eq 10, 3) := by decide +kernel
theorem dX1_turnSpecks_233 : decode cX1_turnSpecks 233 = .ok (.iload_n 3, 1) := by decide +kernel
theorem dX1_turnSpecks_234 : decode cX1_turnSpecks 234 = .ok (.iload 5, 2) := by decide +kernel
theorem dX1_turnSpecks_236 : decode cX1_turnSpecks 236 = .ok (.iadd, 1) := by decide +kernel
theorem dX1_turnSpecks_237 : decode cX1_turnSpecks 237 = .ok (.goto 4, 3) := by decide +kernel
theorem dX1_turnSpecks_240 : decode cX1_turnSpecks 240 = .ok (.iload_n 3, 1) := by decide +kernel
theorem dX1_turnSpecks_241 : decode cX1_turnSpecks 241 = .ok (.istore_n 3, 1) := by decide +kernel
theorem dX1_turnSpecks_242 : decode cX1_turnSpecks 242 = .ok (.iinc 4 1, 3) := by decide +kernel
theorem dX1_turnSpecks_245 : decode cX1_turnSpecks 245 = .ok (.goto (-235), 3) := by decide +kernel
theorem dX1_turnSpecks_248 : decode cX1_turnSpecks 248 = .ok (.iload_n 3, 1) := by decide +kernel
theorem dX1_turnSpecks_249 : decode cX1_turnSpecks 249 = .ok (.ireturn, 1) := by decide +kernel
theorem dX1_clean_0 : decode cX1_clean 0 = .ok (.aload_n 0, 1) := by decide +kernel
theorem dX1_clean_1 : decode cX1_clean 1 = .ok (.iload_n 1, 1) := by decide +kernel
theorem dX1_clean_2 : decode cX1_clean 2 = .ok (.ifCond .lt 14, 3) := by decide +kernel
theorem dX1_clean_5 : decode cX1_clean 5 = .ok (.iload_n 1, 1) := by decide +kernel
theorem dX1_clean_6 : decode cX1_clean 6 = .ok (.sipush 256, 3) := by decide +kernel
theorem dX1_clean_9 : decode cX1_clean 9 = .ok (.if_icmp .gt 7, 3) := by decide +kernel
theorem dX1_clean_12 : decode cX1_clean 12 = .ok (.iconst 0, 1) := by decide +kernel
theorem dX1_clean_13 : decode cX1_clean 13 = .ok (.goto 4, 3) := by decide +kernel
theorem dX1_clean_16 : decode cX1_clean 16 = .ok (.iconst 1, 1) := by decide +kernel
theorem dX1_clean_17 : decode cX1_clean 17 = .ok (.putfield 33, 3) := by decide +kernel
theorem dX1_clean_20 : decode cX1_clean 20 = .ok (.aload_n 0, 1) := by decide +kernel
theorem dX1_clean_21 : decode cX1_clean 21 = .ok (.getfield 33, 3) := by decide +kernel
theorem dX1_clean_24 : decode cX1_clean 24 = .ok (.ifCond .le 5, 3) := by decide +kernel
theorem dX1_clean_27 : decode cX1_clean 27 = .ok (.iconst 0, 1) := by decide +kernel
theorem dX1_clean_28 : decode cX1_clean 28 = .ok (.ireturn, 1) := by decide +kernel
theorem dX1_clean_29 : decode cX1_clean 29 = .ok (.aload_n 0, 1) := by decide +kernel
theorem dX1_clean_30 : decode cX1_clean 30 = .ok (.iconst 1, 1) := by decide +kernel
theorem dX1_clean_31 : decode cX1_clean 31 = .ok (.iload_n 1, 1) := by decide +kernel
theorem dX1_clean_32 : decode cX1_clean 32 = .ok (.invokevirtual 82, 3) := by decide +kernel
theorem dX1_clean_35 : decode cX1_clean 35 = .ok (.istore_n 2, 1) := by decide +kernel
theorem dX1_clean_36 : decode cX1_clean 36 = .ok (.iload_n 2, 1) := by decide +kernel
theorem dX1_clean_37 : decode cX1_clean 37 = .ok (.aload_n 0, 1) := by decide +kernel
theorem dX1_clean_38 : decode cX1_clean 38 = .ok (.iconst 0, 1) := by decide +kernel
theorem dX1_clean_39 : decode cX1_clean 39 = .ok (.iload_n 1, 1) := by decide +kernel
theorem dX1_clean_40 : decode cX1_clean 40 = .ok (.invokevirtual 82, 3) := by decide +kernel
theorem dX1_clean_43 : decode cX1_clean 43 = .ok (.iadd, 1) := by decide +kernel
theorem dX1_clean_44 : decode cX1_clean 44 = .ok (.ireturn, 1) := by decide +kernel
theorem dX1_isBlackAt_0 : decode cX1_isBlackAt 0 = .ok (.aload_n 0, 1) := by decide +kernel
theorem dX1_isBlackAt_1 : decode cX1_isBlackAt 1 = .ok (.iload_n 1, 1) := by decide +kernel
theorem dX1_isBlackAt_2 : decode cX1_isBlackAt 2 = .ok (.iload_n 2, 1) := by decide +kernel
theorem dX1_isBlackAt_3 : decode cX1_isBlackAt 3 = .ok (.invokevirtual 36, 3) := by decide +kernel
theorem dX1_isBlackAt_6 : decode cX1_isBlackAt 6 = .ok (.ifCond .eq 23, 3) := by decide +kernel
theorem dX1_isBlackAt_9 : decode cX1_isBlackAt 9 = .ok (.aload_n 0, 1) := by decide +kernel
theorem dX1_isBlackAt_10 : decode cX1_isBlackAt 10 = .ok (.getfield 13, 3) := by decide +kernel
theorem dX1_isBlackAt_13 : decode cX1_isBlackAt 13 = .ok (.aload_n 0, 1) := by decide +kernel
theorem dX1_isBlackAt_14 : decode cX1_isBlackAt 14 = .ok (.getfield 26, 3) := by decide +kernel
theorem dX1_isBlackAt_17 : decode cX1_isBlackAt 17 = .ok (.iload_n 2, 1) := by decide +kernel
theorem dX1_isBlackAt_18 : decode cX1_isBlackAt 18 = .ok (.imul, 1) := by decide +kernel
theorem dX1_isBlackAt_19 : decode cX1_isBlackAt 19 = .ok (.iload_n 1, 1) := by decide +kernel
theorem dX1_isBlackAt_20 : decode cX1_isBlackAt 20 = .ok (.iadd, 1) := by decide +kernel
theorem dX1_isBlackAt_21 : decode cX1_isBlackAt 21 = .ok (.baload, 1) := by decide +kernel
theorem dX1_isBlackAt_22 : decode cX1_isBlackAt 22 = .ok (.ifCond .eq 7, 3) := by decide +kernel
theorem dX1_isBlackAt_25 : decode cX1_isBlackAt 25 = .ok (.iconst 1, 1) := by decide +kernel
theorem dX1_isBlackAt_26 : decode cX1_isBlackAt 26 = .ok (.goto 4, 3) := by decide +kernel
theorem dX1_isBlackAt_29 : decode cX1_isBlackAt 29 = .ok (.iconst 0, 1) := by decide +kernel
theorem dX1_isBlackAt_30 : decode cX1_isBlackAt 30 = .ok (.ireturn, 1) := by decide +kernel
theorem dX1_edges_0 : decode cX1_edges 0 = .ok (.aload_n 0, 1) := by decide +kernel
theorem dX1_edges_1 : decode cX1_edges 1 = .ok (.iconst 0, 1) := by decide +kernel
theorem dX1_edges_2 : decode cX1_edges 2 = .ok (.putfield 33, 3) := by decide +kernel
theorem dX1_edges_5 : decode cX1_edges 5 = .ok (.iconst 0, 1) := by decide +kernel
theorem dX1_edges_6 : decode cX1_edges 6 = .ok (.istore_n 1, 1) := by decide +kernel
theorem dX1_edges_7 : decode cX1_edges 7 = .ok (.iload_n 1, 1) := by decide +kernel
theorem dX1_edges_8 : decode cX1_edges 8 = .ok (.aload_n 0, 1) := by decide +kernel
theorem dX1_edges_9 : decode cX1_edges 9 = .ok (.invokevirtual 40, 3) := by decide +kernel
theorem dX1_edges_12 : decode cX1_edges 12 = .ok (.if_icmp .ge 99, 3) := by decide +kernel
theorem dX1_edges_15 : decode cX1_edges 15 = .ok (.iload_n 1, 1) := by decide +kernel
theorem dX1_edges_16 : decode cX1_edges 16 = .ok (.aload_n 0, 1) := by decide +kernel
theorem dX1_edges_17 : decode cX1_edges 17 = .ok (.getfield 26, 3) := by decide +kernel
theorem dX1_edges_20 : decode cX1_edges 20 = .ok (.irem, 1) := by decide +kernel
theorem dX1_edges_21 : decode cX1_edges 21 = .ok (.istore_n 2, 1) := by decide +kernel
theorem dX1_edges_22 : decode cX1_edges 22 = .ok (.iload_n 1, 1) := by decide +kernel
theorem dX1_edges_23 : decode cX1_edges 23 = .ok (.aload_n 0, 1) := by decide +kernel
theorem dX1_edges_24 : decode cX1_edges 24 = .ok (.getfield 26, 3) := by decide +kernel
theorem dX1_edges_27 : decode cX1_edges 27 = .ok (.idiv, 1) := by decide +kernel
theorem dX1_edges_28 : decode cX1_edges 28 = .ok (.istore_n 3, 1) := by decide +kernel
theorem dX1_edges_29 : decode cX1_edges 29 = .ok (.aload_n 0, 1) := by decide +kernel
theorem dX1_edges_30 : decode cX1_edges 30 = .ok (.iload_n 2, 1) := by decide +kernel
theorem dX1_edges_31 : decode cX1_edges 31 = .ok (.iconst 1, 1) := by decide +kernel
theorem dX1_edges_32 : decode cX1_edges 32 = .ok (.isub, 1) := by decide +kernel
theorem dX1_edges_33 : decode cX1_edges 33 = .ok (.iload_n 3, 1) := by decide +kernel
theorem dX1_edges_34 : decode cX1_edges 34 = .ok (.invokevirtual 86, 3) := by decide +kernel
theorem dX1_edges_37 : decode cX1_edges 37 = .ok (.ifCond .eq 40, 3) := by decide +kernel
theorem dX1_edges_40 : decode cX1_edges 40 = .ok (.aload_n 0, 1) := by decide +kernel
theorem dX1_edges_41 : decode cX1_edges 41 = .ok (.iload_n 2, 1) := by decide +kernel
theorem dX1_edges_42 : decode cX1_edges 42 = .ok (.iconst 1, 1) := by decide +kernel
theorem dX1_edges_43 : decode cX1_edges 43 = .ok (.iadd, 1) := by decide +kernel
theorem dX1_edges_44 : decode cX1_edges 44 = .ok (.iload_n 3, 1) := by decide +kernel
theorem dX1_edges_45 : decode cX1_edges 45 = .ok (.invokevirtual 86, 3) := by decide +kernel
theorem dX1_edges_48 : decode cX1_edges 48 = .ok (.ifCond .eq 29, 3) := by decide +kernel
theorem dX1_edges_51 : decode cX1_edges 51 = .ok (.aload_n 0, 1) := by decide +kernel
theorem dX1_edges_52 : decode cX1_edges 52 = .ok (.iload_n 2, 1) := by decide +kernel
theorem dX1_edges_53 : decode cX1_edges 53 = .ok (.iload_n 3, 1) := by decide +kernel
theorem dX1_edges_54 : decode cX1_edges 54 = .ok (.iconst 1, 1) := by decide +kernel
theorem dX1_edges_55 : decode cX1_edges 55 = .ok (.isub, 1) := by decide +kernel
theorem dX1_edges_56 : decode cX1_edges 56 = .ok (.invokevirtual 86, 3) := by decide +kernel
theorem dX1_edges_59 : decode cX1_edges 59 = .ok (.ifCond .eq 18, 3) := by decide +kernel
theorem dX1_edges_62 : decode cX1_edges 62 = .ok (.aload_n 0, 1) := by decide +kernel
theorem dX1_edges_63 : decode cX1_edges 63 = .ok (.iload_n 2, 1) := by decide +kernel
theorem dX1_edges_64 : decode cX1_edges 64 = .ok (.iload_n 3, 1) := by decide +kernel
theorem dX1_edges_65 : decode cX1_edges 65 = .ok (.iconst 1, 1) := by decide +kernel
theorem dX1_edges_66 : decode cX1_edges 66 = .ok (.iadd, 1) := by decide +kernel
theorem dX1_edges_67 : decode cX1_edges 67 = .ok (.invokevirtual 86, 3) := by decide +kernel
theorem dX1_edges_70 : decode cX1_edges 70 = .ok (.ifCond .eq 7, 3) := by decide +kernel
theorem dX1_edges_73 : decode cX1_edges 73 = .ok (.iconst 1, 1) := by decide +kernel
theorem dX1_edges_74 : decode cX1_edges 74 = .ok (.goto 4, 3) := by decide +kernel
theorem dX1_edges_77 : decode cX1_edges 77 = .ok (.iconst 0, 1) := by decide +kernel
theorem dX1_edges_78 : decode cX1_edges 78 = .ok (.istore 4, 2) := by decide +kernel
theorem dX1_edges_80 : decode cX1_edges 80 = .ok (.aload_n 0, 1) := by decide +kernel
theorem dX1_edges_81 : decode cX1_edges 81 = .ok (.getfield 17, 3) := by decide +kernel
theorem dX1_edges_84 : decode cX1_edges 84 = .ok (.iload_n 1, 1) := by decide +kernel
theorem dX1_edges_85 : decode cX1_edges 85 = .ok (.aload_n 0, 1) := by decide +kernel
theorem dX1_edges_86 : decode cX1_edges 86 = .ok (.getfield 13, 3) := by decide +kernel
theorem dX1_edges_89 : decode cX1_edges 89 = .ok (.iload_n 1, 1) := by decide +kernel
theorem dX1_edges_90 : decode cX1_edges 90 = .ok (.baload, 1) := by decide +kernel
theorem dX1_edges_91 : decode cX1_edges 91 = .ok (.ifCond .eq 12, 3) := by decide +kernel
theorem dX1_edges_94 : decode cX1_edges 94 = .ok (.iload 4, 2) := by decide +kernel
theorem dX1_edges_96 : decode cX1_edges 96 = .ok (.ifCond .ne 7, 3) := by decide +kernel
theorem dX1_edges_99 : decode cX1_edges 99 = .ok (.iconst 1, 1) := by decide +kernel
theorem dX1_edges_100 : decode cX1_edges 100 = .ok (.goto 4, 3) := by decide +kernel
theorem dX1_edges_103 : decode cX1_edges 103 = .ok (.iconst 0, 1) := by decide +kernel
theorem dX1_edges_104 : decode cX1_edges 104 = .ok (.bastore, 1) := by decide +kernel
theorem dX1_edges_105 : decode cX1_edges 105 = .ok (.iinc 1 1, 3) := by decide +kernel
theorem dX1_edges_108 : decode cX1_edges 108 = .ok (.goto (-101), 3) := by decide +kernel
theorem dX1_edges_111 : decode cX1_edges 111 = .ok (.iconst 0, 1) := by decide +kernel
theorem dX1_edges_112 : decode cX1_edges 112 = .ok (.istore_n 1, 1) := by decide +kernel
theorem dX1_edges_113 : decode cX1_edges 113 = .ok (.iload_n 1, 1) := by decide +kernel
theorem dX1_edges_114 : decode cX1_edges 114 = .ok (.aload_n 0, 1) := by decide +kernel
theorem dX1_edges_115 : decode cX1_edges 115 = .ok (.invokevirtual 40, 3) := by decide +kernel
theorem dX1_edges_118 : decode cX1_edges 118 = .ok (.if_icmp .ge 21, 3) := by decide +kernel
theorem dX1_edges_121 : decode cX1_edges 121 = .ok (.aload_n 0, 1) := by decide +kernel
theorem dX1_edges_122 : decode cX1_edges 122 = .ok (.getfield 13, 3) := by decide +kernel
theorem dX1_edges_125 : decode cX1_edges 125 = .ok (.iload_n 1, 1) := by decide +kernel
theorem dX1_edges_126 : decode cX1_edges 126 = .ok (.aload_n 0, 1) := by decide +kernel
theorem dX1_edges_127 : decode cX1_edges 127 = .ok (.getfield 17, 3) := by decide +kernel
theorem dX1_edges_130 : decode cX1_edges 130 = .ok (.iload_n 1, 1) := by decide +kernel
theorem dX1_edges_131 : decode cX1_edges 131 = .ok (.baload, 1) := by decide +kernel
theorem dX1_edges_132 : decode cX1_edges 132 = .ok (.bastore, 1) := by decide +kernel
theorem dX1_edges_133 : decode cX1_edges 133 = .ok (.iinc 1 1, 3) := by decide +kernel
theorem dX1_edges_136 : decode cX1_edges 136 = .ok (.goto (-23), 3) := by decide +kernel
theorem dX1_edges_139 : decode cX1_edges 139 = .ok (.aload_n 0, 1) := by decide +kernel
theorem dX1_edges_140 : decode cX1_edges 140 = .ok (.invokevirtual 52, 3) := by decide +kernel
theorem dX1_edges_143 : decode cX1_edges 143 = .ok (.ireturn, 1) := by decide +kernel
theorem dX1_invert_0 : decode cX1_invert 0 = .ok (.aload_n 0, 1) := by decide +kernel
theorem dX1_invert_1 : decode cX1_invert 1 = .ok (.iconst 0, 1) := by decide +kernel
theorem dX1_invert_2 : decode cX1_invert 2 = .ok (.putfield 33, 3) := by decide +kernel
theorem dX1_invert_5 : decode cX1_invert 5 = .ok (.iconst 0, 1) := by decide +kernel
theorem dX1_invert_6 : decode cX1_invert 6 = .ok (.istore_n 1, 1) := by decide +kernel
theorem dX1_invert_7 : decode cX1_invert 7 = .ok (.iload_n 1, 1) := by decide +kernel
theorem dX1_invert_8 : decode cX1_invert 8 = .ok (.aload_n 0, 1) := by decide +kernel
theorem dX1_invert_9 : decode cX1_invert 9 = .ok (.invokevirtual 40, 3) := by decide +kernel
theorem dX1_invert_12 : decode cX1_invert 12 = .ok (.if_icmp .ge 29, 3) := by decide +kernel
theorem dX1_invert_15 : decode cX1_invert 15 = .ok (.aload_n 0, 1) := by decide +kernel
theorem dX1_invert_16 : decode cX1_invert 16 = .ok (.getfield 13, 3) := by decide +kernel
theorem dX1_invert_19 : decode cX1_invert 19 = .ok (.iload_n 1, 1) := by decide +kernel
theorem dX1_invert_20 : decode cX1_invert 20 = .ok (.aload_n 0, 1) := by decide +kernel
theorem dX1_invert_21 : decode cX1_invert 21 = .ok (.getfield 13, 3) := by decide +kernel
theorem dX1_invert_24 : decode cX1_invert 24 = .ok (.iload_n 1, 1) := by decide +kernel
theorem dX1_invert_25 : decode cX1_invert 25 = .ok (.baload, 1) := by decide +kernel
theorem dX1_invert_26 : decode cX1_invert 26 = .ok (.ifCond .ne 7, 3) := by decide +kernel
theorem dX1_invert_29 : decode cX1_invert 29 = .ok (.iconst 1, 1) := by decide +kernel
theorem dX1_invert_30 : decode cX1_invert 30 = .ok (.goto 4, 3) := by decide +kernel
theorem dX1_invert_33 : decode cX1_invert 33 = .ok (.iconst 0, 1) := by decide +kernel
theorem dX1_invert_34 : decode cX1_invert 34 = .ok (.bastore, 1) := by decide +kernel
theorem dX1_invert_35 : decode cX1_invert 35 = .ok (.iinc 1 1, 3) := by decide +kernel
theorem dX1_invert_38 : decode cX1_invert 38 = .ok (.goto (-31), 3) := by decide +kernel
theorem dX1_invert_41 : decode cX1_invert 41 = .ok (.aload_n 0, 1) := by decide +kernel
theorem dX1_invert_42 : decode cX1_invert 42 = .ok (.invokevirtual 52, 3) := by decide +kernel
theorem dX1_invert_45 : decode cX1_invert 45 = .ok (.ireturn, 1) := by decide +kernel
theorem dX1_at_0 : decode cX1_at 0 = .ok (.aload_n 0, 1) := by decide +kernel
theorem dX1_at_1 : decode cX1_at 1 = .ok (.aload_n 0, 1) := by decide +kernel
theorem dX1_at_2 : decode cX1_at 2 = .ok (.iload_n 1, 1) := by decide +kernel
theorem dX1_at_3 : decode cX1_at 3 = .ok (.iload_n 2, 1) := by decide +kernel
theorem dX1_at_4 : decode cX1_at 4 = .ok (.invokevirtual 36, 3) := by decide +kernel
theorem dX1_at_7 : decode cX1_at 7 = .ok (.ifCond .eq 7, 3) := by decide +kernel
theorem dX1_at_10 : decode cX1_at 10 = .ok (.iconst 0, 1) := by decide +kernel
theorem dX1_at_11 : decode cX1_at 11 = .ok (.goto 4, 3) := by decide +kernel
theorem dX1_at_14 : decode cX1_at 14 = .ok (.iconst 1, 1) := by decide +kernel
theorem dX1_at_15 : decode cX1_at 15 = .ok (.putfield 33, 3) := by decide +kernel
theorem dX1_at_18 : decode cX1_at 18 = .ok (.aload_n 0, 1) := by decide +kernel
theorem dX1_at_19 : decode cX1_at 19 = .ok (.getfield 33, 3) := by decide +kernel
theorem dX1_at_22 : decode cX1_at 22 = .ok (.ifCond .ne 23, 3) := by decide +kernel
theorem dX1_at_25 : decode cX1_at 25 = .ok (.aload_n 0, 1) := by decide +kernel
theorem dX1_at_26 : decode cX1_at 26 = .ok (.getfield 13, 3) := by decide +kernel
theorem dX1_at_29 : decode cX1_at 29 = .ok (.aload_n 0, 1) := by decide +kernel
theorem dX1_at_30 : decode cX1_at 30 = .ok (.getfield 26, 3) := by decide +kernel
theorem dX1_at_33 : decode cX1_at 33 = .ok (.iload_n 2, 1) := by decide +kernel
theorem dX1_at_34 : decode cX1_at 34 = .ok (.imul, 1) := by decide +kernel
theorem dX1_at_35 : decode cX1_at 35 = .ok (.iload_n 1, 1) := by decide +kernel
theorem dX1_at_36 : decode cX1_at 36 = .ok (.iadd, 1) := by decide +kernel
theorem dX1_at_37 : decode cX1_at 37 = .ok (.baload, 1) := by decide +kernel
theorem dX1_at_38 : decode cX1_at 38 = .ok (.ifCond .eq 7, 3) := by decide +kernel
theorem dX1_at_41 : decode cX1_at 41 = .ok (.iconst 1, 1) := by decide +kernel
theorem dX1_at_42 : decode cX1_at 42 = .ok (.goto 4, 3) := by decide +kernel
theorem dX1_at_45 : decode cX1_at 45 = .ok (.iconst 0, 1) := by decide +kernel
theorem dX1_at_46 : decode cX1_at 46 = .ok (.ireturn, 1) := by decide +kernel
theorem dX1_sum_0 : decode cX1_sum 0 = .ok (.iload_n 3, 1) := by decide +kernel
theorem dX1_sum_1 : decode cX1_sum 1 = .ok (.ifCond .lt 49, 3) := by decide +kernel
theorem dX1_sum_4 : decode cX1_sum 4 = .ok (.iload 4, 2) := by decide +kernel
theorem dX1_sum_6 : decode cX1_sum 6 = .ok (.ifCond .lt 44, 3) := by decide +kernel
theorem dX1_sum_9 : decode cX1_sum 9 = .ok (.iload_n 1, 1) := by decide +kernel
theorem dX1_sum_10 : decode cX1_sum 10 = .ok (.ifCond .lt 40, 3) := by decide +kernel
theorem dX1_sum_13 : decode cX1_sum 13 = .ok (.iload_n 2, 1) := by decide +kernel
theorem dX1_sum_14 : decode cX1_sum 14 = .ok (.ifCond .lt 36, 3) := by decide +kernel
theorem dX1_sum_17 : decode cX1_sum 17 = .ok (.iload_n 1, 1) := by decide +kernel
theorem dX1_sum_18 : decode cX1_sum 18 = .ok (.i2l, 1) := by decide +kernel
theorem dX1_sum_19 : decode cX1_sum 19 = .ok (.iload_n 3, 1) := by decide +kernel
theorem dX1_sum_20 : decode cX1_sum 20 = .ok (.i2l, 1) := by decide +kernel
theorem dX1_sum_21 : decode cX1_sum 21 = .ok (.ladd, 1) := by decide +kernel
theorem dX1_sum_22 : decode cX1_sum 22 = .ok (.aload_n 0, 1) := by decide +kernel
theorem dX1_sum_23 : decode cX1_sum 23 = .ok (.getfield 26, 3) := by decide +kernel
theorem dX1_sum_26 : decode cX1_sum 26 = .ok (.i2l, 1) := by decide +kernel
theorem dX1_sum_27 : decode cX1_sum 27 = .ok (.lcmp, 1) := by decide +kernel
theorem dX1_sum_28 : decode cX1_sum 28 = .ok (.ifCond .gt 22, 3) := by decide +kernel
theorem dX1_sum_31 : decode cX1_sum 31 = .ok (.iload_n 2, 1) := by decide +kernel
theorem dX1_sum_32 : decode cX1_sum 32 = .ok (.i2l, 1) := by decide +kernel
theorem dX1_sum_33 : decode cX1_sum 33 = .ok (.iload 4, 2) := by decide +kernel
theorem dX1_sum_35 : decode cX1_sum 35 = .ok (.i2l, 1) := by decide +kernel
theorem dX1_sum_36 : decode cX1_sum 36 = .ok (.ladd, 1) := by decide +kernel
theorem dX1_sum_37 : decode cX1_sum 37 = .ok (.aload_n 0, 1) := by decide +kernel
theorem dX1_sum_38 : decode cX1_sum 38 = .ok (.getfield 30, 3) := by decide +kernel
theorem dX1_sum_41 : decode cX1_sum 41 = .ok (.i2l, 1) := by decide +kernel
theorem dX1_sum_42 : decode cX1_sum 42 = .ok (.lcmp, 1) := by decide +kernel
theorem dX1_sum_43 : decode cX1_sum 43 = .ok (.ifCond .gt 7, 3) := by decide +kernel
theorem dX1_sum_46 : decode cX1_sum 46 = .ok (.iconst 1, 1) := by decide +kernel
theorem dX1_sum_47 : decode cX1_sum 47 = .ok (.goto 4, 3) := by decide +kernel
theorem dX1_sum_50 : decode cX1_sum 50 = .ok (.iconst 0, 1) := by decide +kernel
theorem dX1_sum_51 : decode cX1_sum 51 = .ok (.istore 6, 2) := by decide +kernel
theorem dX1_sum_53 : decode cX1_sum 53 = .ok (.aload_n 0, 1) := by decide +kernel
theorem dX1_sum_54 : decode cX1_sum 54 = .ok (.iload 6, 2) := by decide +kernel
theorem dX1_sum_56 : decode cX1_sum 56 = .ok (.ifCond .eq 7, 3) := by decide +kernel
theorem dX1_sum_59 : decode cX1_sum 59 = .ok (.iconst 0, 1) := by decide +kernel
theorem dX1_sum_60 : decode cX1_sum 60 = .ok (.goto 4, 3) := by decide +kernel
theorem dX1_sum_63 : decode cX1_sum 63 = .ok (.iconst 1, 1) := by decide +kernel
theorem dX1_sum_64 : decode cX1_sum 64 = .ok (.putfield 33, 3) := by decide +kernel
theorem dX1_sum_67 : decode cX1_sum 67 = .ok (.lconst 0, 1) := by decide +kernel
theorem dX1_sum_68 : decode cX1_sum 68 = .ok (.lstore 7, 2) := by decide +kernel
theorem dX1_sum_70 : decode cX1_sum 70 = .ok (.iconst 0, 1) := by decide +kernel
theorem dX1_sum_71 : decode cX1_sum 71 = .ok (.istore 9, 2) := by decide +kernel
theorem dX1_sum_73 : decode cX1_sum 73 = .ok (.iload 9, 2) := by decide +kernel
theorem dX1_sum_75 : decode cX1_sum 75 = .ok (.aload_n 0, 1) := by decide +kernel
theorem dX1_sum_76 : decode cX1_sum 76 = .ok (.invokevirtual 40, 3) := by decide +kernel
theorem dX1_sum_79 : decode cX1_sum 79 = .ok (.if_icmp .ge 114, 3) := by decide +kernel
theorem dX1_sum_82 : decode cX1_sum 82 = .ok (.iload 6, 2) := by decide +kernel
theorem dX1_sum_84 : decode cX1_sum 84 = .ok (.ifCond .eq 109, 3) := by decide +kernel
theorem dX1_sum_87 : decode cX1_sum 87 = .ok (.iload 9, 2) := by decide +kernel
theorem dX1_sum_89 : decode cX1_sum 89 = .ok (.aload_n 0, 1) := by decide +kernel
theorem dX1_sum_90 : decode cX1_sum 90 = .ok (.getfield 26, 3) := by decide +kernel
theorem dX1_sum_93 : decode cX1_sum 93 = .ok (.irem, 1) := by decide +kernel
theorem dX1_sum_94 : decode cX1_sum 94 = .ok (.istore 10, 2) := by decide +kernel
theorem dX1_sum_96 : decode cX1_sum 96 = .ok (.iload 9, 2) := by decide +kernel
theorem dX1_sum_98 : decode cX1_sum 98 = .ok (.aload_n 0, 1) := by decide +kernel
theorem dX1_sum_99 : decode cX1_sum 99 = .ok (.getfield 26, 3) := by decide +kernel
theorem dX1_sum_102 : decode cX1_sum 102 = .ok (.idiv, 1) := by decide +kernel
theorem dX1_sum_103 : decode cX1_sum 103 = .ok (.istore 11, 2) := by decide +kernel
theorem dX1_sum_105 : decode cX1_sum 105 = .ok (.iload 10, 2) := by decide +kernel
theorem dX1_sum_107 : decode cX1_sum 107 = .ok (.iload_n 1, 1) := by decide +kernel
theorem dX1_sum_108 : decode cX1_sum 108 = .ok (.if_icmp .lt 30, 3) := by decide +kernel
theorem dX1_sum_111 : decode cX1_sum 111 = .ok (.iload 10, 2) := by decide +kernel
theorem dX1_sum_113 : decode cX1_sum 113 = .ok (.iload_n 1, 1) := by decide +kernel
theorem dX1_sum_114 : decode cX1_sum 114 = .ok (.iload_n 3, 1) := by decide +kernel
theorem dX1_sum_115 : decode cX1_sum 115 = .ok (.iadd, 1) := by decide +kernel
theorem dX1_sum_116 : decode cX1_sum 116 = .ok (.if_icmp .ge 22, 3) := by decide +kernel
theorem dX1_sum_119 : decode cX1_sum 119 = .ok (.iload 11, 2) := by decide +kernel
theorem dX1_sum_121 : decode cX1_sum 121 = .ok (.iload_n 2, 1) := by decide +kernel
theorem dX1_sum_122 : decode cX1_sum 122 = .ok (.if_icmp .lt 16, 3) := by decide +kernel
theorem dX1_sum_125 : decode cX1_sum 125 = .ok (.iload 11, 2) := by decide +kernel
theorem dX1_sum_127 : decode cX1_sum 127 = .ok (.iload_n 2, 1) := by decide +kernel
theorem dX1_sum_128 : decode cX1_sum 128 = .ok (.iload 4, 2) := by decide +kernel
theorem dX1_sum_130 : decode cX1_sum 130 = .ok (.iadd, 1) := by decide +kernel
theorem dX1_sum_131 : decode cX1_sum 131 = .ok (.if_icmp .ge 7, 3) := by decide +kernel
theorem dX1_sum_134 : decode cX1_sum 134 = .ok (.iconst 1, 1) := by decide +kernel
theorem dX1_sum_135 : decode cX1_sum 135 = .ok (.goto 4, 3) := by decide +kernel
theorem dX1_sum_138 : decode cX1_sum 138 = .ok (.iconst 0, 1) := by decide +kernel
theorem dX1_sum_139 : decode cX1_sum 139 = .ok (.istore 12, 2) := by decide +kernel
theorem dX1_sum_141 : decode cX1_sum 141 = .ok (.iload 12, 2) := by decide +kernel
theorem dX1_sum_143 : decode cX1_sum 143 = .ok (.ifCond .eq 40, 3) := by decide +kernel
theorem dX1_sum_146 : decode cX1_sum 146 = .ok (.lload 7, 2) := by decide +kernel
theorem dX1_sum_148 : decode cX1_sum 148 = .ok (.iload 5, 2) := by decide +kernel
theorem dX1_sum_150 : decode cX1_sum 150 = .ok (.ifCond .eq 21, 3) := by decide +kernel
theorem dX1_sum_153 : decode cX1_sum 153 = .ok (.aload_n 0, 1) := by decide +kernel
theorem dX1_sum_154 : decode cX1_sum 154 = .ok (.getfield 7, 3) := by decide +kernel
theorem dX1_sum_157 : decode cX1_sum 157 = .ok (.iload 9, 2) := by decide +kernel
theorem dX1_sum_159 : decode cX1_sum 159 = .ok (.iaload, 1) := by decide +kernel
theorem dX1_sum_160 : decode cX1_sum 160 = .ok (.aload_n 0, 1) := by decide +kernel
theorem dX1_sum_161 : decode cX1_sum 161 = .ok (.getfield 7, 3) := by decide +kernel
theorem dX1_sum_164 : decode cX1_sum 164 = .ok (.iload 9, 2) := by decide +kernel
theorem dX1_sum_166 : decode cX1_sum 166 = .ok (.iaload, 1) := by decide +kernel
theorem dX1_sum_167 : decode cX1_sum 167 = .ok (.imul, 1) := by decide +kernel
theorem dX1_sum_168 : decode cX1_sum 168 = .ok (.goto 10, 3) := by decide +kernel
theorem dX1_sum_171 : decode cX1_sum 171 = .ok (.aload_n 0, 1) := by decide +kernel
theorem dX1_sum_172 : decode cX1_sum 172 = .ok (.getfield 7, 3) := by decide +kernel
theorem dX1_sum_175 : decode cX1_sum 175 = .ok (.iload 9, 2) := by decide +kernel
theorem dX1_sum_177 : decode cX1_sum 177 = .ok (.iaload, 1) := by decide +kernel
theorem dX1_sum_178 : decode cX1_sum 178 = .ok (.i2l, 1) := by decide +kernel
theorem dX1_sum_179 : decode cX1_sum 179 = .ok (.ladd, 1) := by decide +kernel
theorem dX1_sum_180 : decode cX1_sum 180 = .ok (.goto 5, 3) := by decide +kernel
theorem dX1_sum_183 : decode cX1_sum 183 = .ok (.lload 7, 2) := by decide +kernel
theorem dX1_sum_185 : decode cX1_sum 185 = .ok (.lstore 7, 2) := by decide +kernel
theorem dX1_sum_187 : decode cX1_sum 187 = .ok (.iinc 9 1, 3) := by decide +kernel
theorem dX1_sum_190 : decode cX1_sum 190 = .ok (.goto (-117), 3) := by decide +kernel
theorem dX1_sum_193 : decode cX1_sum 193 = .ok (.lload 7, 2) := by decide +kernel
theorem dX1_sum_195 : decode cX1_sum 195 = .ok (.lreturn, 1) := by decide +kernel
theorem dX1_parts_0 : decode cX1_parts 0 = .ok (.aload_n 0, 1) := by decide +kernel
theorem dX1_parts_1 : decode cX1_parts 1 = .ok (.iconst 1, 1) := by decide +kernel
theorem dX1_parts_2 : decode cX1_parts 2 = .ok (.invokevirtual 78, 3) := by decide +kernel
theorem dX1_parts_5 : decode cX1_parts 5 = .ok (.iconst 0, 1) := by decide +kernel
theorem dX1_parts_6 : decode cX1_parts 6 = .ok (.istore_n 1, 1) := by decide +kernel
theorem dX1_parts_7 : decode cX1_parts 7 = .ok (.iconst 0, 1) := by decide +kernel
theorem dX1_parts_8 : decode cX1_parts 8 = .ok (.istore_n 2, 1) := by decide +kernel
theorem dX1_parts_9 : decode cX1_parts 9 = .ok (.iload_n 2, 1) := by decide +kernel
theorem dX1_parts_10 : decode cX1_parts 10 = .ok (.aload_n 0, 1) := by decide +kernel
theorem dX1_parts_11 : decode cX1_parts 11 = .ok (.invokevirtual 40, 3) := by decide +kernel
theorem dX1_parts_14 : decode cX1_parts 14 = .ok (.if_icmp .ge 27, 3) := by decide +kernel
theorem dX1_parts_17 : decode cX1_parts 17 = .ok (.aload_n 0, 1) := by decide +kernel
theorem dX1_parts_18 : decode cX1_parts 18 = .ok (.getfield 23, 3) := by decide +kernel
theorem dX1_parts_21 : decode cX1_parts 21 = .ok (.iload_n 2, 1) := by decide +kernel
theorem dX1_parts_22 : decode cX1_parts 22 = .ok (.iaload, 1) := by decide +kernel
theorem dX1_parts_23 : decode cX1_parts 23 = .ok (.iload_n 2, 1) := by decide +kernel
theorem dX1_parts_24 : decode cX1_parts 24 = .ok (.if_icmp .ne 9, 3) := by decide +kernel
theorem dX1_parts_27 : decode cX1_parts 27 = .ok (.iload_n 1, 1) := by decide +kernel
theorem dX1_parts_28 : decode cX1_parts 28 = .ok (.iconst 1, 1) := by decide +kernel
theorem dX1_parts_29 : decode cX1_parts 29 = .ok (.iadd, 1) := by decide +kernel
theorem dX1_parts_30 : decode cX1_parts 30 = .ok (.goto 4, 3) := by decide +kernel
theorem dX1_parts_33 : decode cX1_parts 33 = .ok (.iload_n 1, 1) := by decide +kernel
theorem dX1_parts_34 : decode cX1_parts 34 = .ok (.istore_n 1, 1) := by decide +kernel
theorem dX1_parts_35 : decode cX1_parts 35 = .ok (.iinc 2 1, 3) := by decide +kernel
theorem dX1_parts_38 : decode cX1_parts 38 = .ok (.goto (-29), 3) := by decide +kernel
theorem dX1_parts_41 : decode cX1_parts 41 = .ok (.iload_n 1, 1) := by decide +kernel
theorem dX1_parts_42 : decode cX1_parts 42 = .ok (.ireturn, 1) := by decide +kernel
theorem dX1_different_0 : decode cX1_different 0 = .ok (.iconst 0, 1) := by decide +kernel
theorem dX1_different_1 : decode cX1_different 1 = .ok (.istore_n 1, 1) := by decide +kernel
theorem dX1_different_2 : decode cX1_different 2 = .ok (.iconst 0, 1) := by decide +kernel
theorem dX1_different_3 : decode cX1_different 3 = .ok (.istore_n 2, 1) := by decide +kernel
theorem dX1_different_4 : decode cX1_different 4 = .ok (.iload_n 2, 1) := by decide +kernel
theorem dX1_different_5 : decode cX1_different 5 = .ok (.aload_n 0, 1) := by decide +kernel
theorem dX1_different_6 : decode cX1_different 6 = .ok (.invokevirtual 40, 3) := by decide +kernel
theorem dX1_different_9 : decode cX1_different 9 = .ok (.if_icmp .ge 64, 3) := by decide +kernel
theorem dX1_different_12 : decode cX1_different 12 = .ok (.iconst 1, 1) := by decide +kernel
theorem dX1_different_13 : decode cX1_different 13 = .ok (.istore_n 3, 1) := by decide +kernel
theorem dX1_different_14 : decode cX1_different 14 = .ok (.iconst 0, 1) := by decide +kernel
theorem dX1_different_15 : decode cX1_different 15 = .ok (.istore 4, 2) := by decide +kernel
theorem dX1_different_17 : decode cX1_different 17 = .ok (.iload 4, 2) := by decide +kernel
theorem dX1_different_19 : decode cX1_different 19 = .ok (.iload_n 2, 1) := by decide +kernel
theorem dX1_different_20 : decode cX1_different 20 = .ok (.if_icmp .ge 35, 3) := by decide +kernel
theorem dX1_different_23 : decode cX1_different 23 = .ok (.iload_n 3, 1) := by decide +kernel
theorem dX1_different_24 : decode cX1_different 24 = .ok (.ifCond .eq 23, 3) := by decide +kernel
theorem dX1_different_27 : decode cX1_different 27 = .ok (.aload_n 0, 1) := by decide +kernel
theorem dX1_different_28 : decode cX1_different 28 = .ok (.getfield 7, 3) := by decide +kernel
theorem dX1_different_31 : decode cX1_different 31 = .ok (.iload 4, 2) := by decide +kernel
theorem dX1_different_33 : decode cX1_different 33 = .ok (.iaload, 1) := by decide +kernel
theorem dX1_different_34 : decode cX1_different 34 = .ok (.aload_n 0, 1) := by decide +kernel
theorem dX1_different_35 : decode cX1_different 35 = .ok (.getfield 7, 3) := by decide +kernel
theorem dX1_different_38 : decode cX1_different 38 = .ok (.iload_n 2, 1) := by decide +kernel
theorem dX1_different_39 : decode cX1_different 39 = .ok (.iaload, 1) := by decide +kernel
theorem dX1_different_40 : decode cX1_different 40 = .ok (.if_icmp .eq 7, 3) := by decide +kernel
theorem dX1_different_43 : decode cX1_different 43 = .ok (.iconst 1, 1) := by decide +kernel
theorem dX1_different_44 : decode cX1_different 44 = .ok (.goto 4, 3) := by decide +kernel
theorem dX1_different_47 : decode cX1_different 47 = .ok (.iconst 0, 1) := by decide +kernel
theorem dX1_different_48 : decode cX1_different 48 = .ok (.istore_n 3, 1) := by decide +kernel
theorem dX1_different_49 : decode cX1_different 49 = .ok (.iinc 4 1, 3) := by decide +kernel
theorem dX1_different_52 : decode cX1_different 52 = .ok (.goto (-35), 3) := by decide +kernel
theorem dX1_different_55 : decode cX1_different 55 = .ok (.iload_n 3, 1) := by decide +kernel
theorem dX1_different_56 : decode cX1_different 56 = .ok (.ifCond .eq 9, 3) := by decide +kernel
theorem dX1_different_59 : decode cX1_different 59 = .ok (.iload_n 1, 1) := by decide +kernel
theorem dX1_different_60 : decode cX1_different 60 = .ok (.iconst 1, 1) := by decide +kernel
theorem dX1_different_61 : decode cX1_different 61 = .ok (.iadd, 1) := by decide +kernel
theorem dX1_different_62 : decode cX1_different 62 = .ok (.goto 4, 3) := by decide +kernel
theorem dX1_different_65 : decode cX1_different 65 = .ok (.iload_n 1, 1) := by decide +kernel
theorem dX1_different_66 : decode cX1_different 66 = .ok (.istore_n 1, 1) := by decide +kernel
theorem dX1_different_67 : decode cX1_different 67 = .ok (.iinc 2 1, 3) := by decide +kernel
theorem dX1_different_70 : decode cX1_different 70 = .ok (.goto (-66), 3) := by decide +kernel
theorem dX1_different_73 : decode cX1_different 73 = .ok (.iload_n 1, 1) := by decide +kernel
theorem dX1_different_74 : decode cX1_different 74 = .ok (.ireturn, 1) := by decide +kernel
theorem dX1_told_0 : decode cX1_told 0 = .ok (.aload_n 0, 1) := by decide +kernel
theorem dX1_told_1 : decode cX1_told 1 = .ok (.iconst 0, 1) := by decide +kernel
theorem dX1_told_2 : decode cX1_told 2 = .ok (.putfield 33, 3) := by decide +kernel
theorem dX1_told_5 : decode cX1_told 5 = .ok (.iload_n 1, 1) := by decide +kernel
theorem dX1_told_6 : decode cX1_told 6 = .ok (.tableswitch 59 0 4 #[34, 39, 44, 49, 54], 34) := by decide +kernel
theorem dX1_told_40 : decode cX1_told 40 = .ok (.aload_n 0, 1) := by decide +kernel
theorem dX1_told_41 : decode cX1_told 41 = .ok (.getfield 26, 3) := by decide +kernel
theorem dX1_told_44 : decode cX1_told 44 = .ok (.ireturn, 1) := by decide +kernel
theorem dX1_told_45 : decode cX1_told 45 = .ok (.aload_n 0, 1) := by decide +kernel
theorem dX1_told_46 : decode cX1_told 46 = .ok (.getfield 30, 3) := by decide +kernel
theorem dX1_told_49 : decode cX1_told 49 = .ok (.ireturn, 1) := by decide +kernel
theorem dX1_told_50 : decode cX1_told 50 = .ok (.aload_n 0, 1) := by decide +kernel
theorem dX1_told_51 : decode cX1_told 51 = .ok (.invokevirtual 52, 3) := by decide +kernel
theorem dX1_told_54 : decode cX1_told 54 = .ok (.ireturn, 1) := by decide +kernel
theorem dX1_told_55 : decode cX1_told 55 = .ok (.aload_n 0, 1) := by decide +kernel
theorem dX1_told_56 : decode cX1_told 56 = .ok (.invokevirtual 89, 3) := by decide +kernel
theorem dX1_told_59 : decode cX1_told 59 = .ok (.ireturn, 1) := by decide +kernel
theorem dX1_told_60 : decode cX1_told 60 = .ok (.aload_n 0, 1) := by decide +kernel
theorem dX1_told_61 : decode cX1_told 61 = .ok (.invokevirtual 92, 3) := by decide +kernel
theorem dX1_told_64 : decode cX1_told 64 = .ok (.ireturn, 1) := by decide +kernel
theorem dX1_told_65 : decode cX1_told 65 = .ok (.iconst (-1), 1) := by decide +kernel
theorem dX1_told_66 : decode cX1_told 66 = .ok (.ireturn, 1) := by decide +kernel
theorem dX1_clear_0 : decode cX1_clear 0 = .ok (.aload_n 0, 1) := by decide +kernel
theorem dX1_clear_1 : decode cX1_clear 1 = .ok (.iconst 0, 1) := by decide +kernel
theorem dX1_clear_2 : decode cX1_clear 2 = .ok (.putfield 33, 3) := by decide +kernel
theorem dX1_clear_5 : decode cX1_clear 5 = .ok (.aload_n 0, 1) := by decide +kernel
theorem dX1_clear_6 : decode cX1_clear 6 = .ok (.lconst 0, 1) := by decide +kernel
theorem dX1_clear_7 : decode cX1_clear 7 = .ok (.putfield 55, 3) := by decide +kernel
theorem dX1_clear_10 : decode cX1_clear 10 = .ok (.iconst 0, 1) := by decide +kernel
theorem dX1_clear_11 : decode cX1_clear 11 = .ok (.istore_n 1, 1) := by decide +kernel
theorem dX1_clear_12 : decode cX1_clear 12 = .ok (.iload_n 1, 1) := by decide +kernel
theorem dX1_clear_13 : decode cX1_clear 13 = .ok (.sipush 256, 3) := by decide +kernel
theorem dX1_clear_16 : decode cX1_clear 16 = .ok (.if_icmp .ge 23, 3) := by decide +kernel
theorem dX1_clear_19 : decode cX1_clear 19 = .ok (.aload_n 0, 1) := by decide +kernel
theorem dX1_clear_20 : decode cX1_clear 20 = .ok (.getfield 7, 3) := by decide +kernel
theorem dX1_clear_23 : decode cX1_clear 23 = .ok (.iload_n 1, 1) := by decide +kernel
theorem dX1_clear_24 : decode cX1_clear 24 = .ok (.iconst 0, 1) := by decide +kernel
theorem dX1_clear_25 : decode cX1_clear 25 = .ok (.iastore, 1) := by decide +kernel
theorem dX1_clear_26 : decode cX1_clear 26 = .ok (.aload_n 0, 1) := by decide +kernel
theorem dX1_clear_27 : decode cX1_clear 27 = .ok (.getfield 13, 3) := by decide +kernel
theorem dX1_clear_30 : decode cX1_clear 30 = .ok (.iload_n 1, 1) := by decide +kernel
theorem dX1_clear_31 : decode cX1_clear 31 = .ok (.iconst 0, 1) := by decide +kernel
theorem dX1_clear_32 : decode cX1_clear 32 = .ok (.bastore, 1) := by decide +kernel
theorem dX1_clear_33 : decode cX1_clear 33 = .ok (.iinc 1 1, 3) := by decide +kernel
theorem dX1_clear_36 : decode cX1_clear 36 = .ok (.goto (-24), 3) := by decide +kernel
theorem dX1_clear_39 : decode cX1_clear 39 = .ok (.return_, 1) := by decide +kernel
theorem dL_cell_0 : decode cL_cell 0 = .ok (.iload_n 1, 1) := by decide +kernel
theorem dL_cell_1 : decode cL_cell 1 = .ok (.aload_n 0, 1) := by decide +kernel
theorem dL_cell_2 : decode cL_cell 2 = .ok (.arraylength, 1) := by decide +kernel
theorem dL_cell_3 : decode cL_cell 3 = .ok (.if_icmp .ge 9, 3) := by decide +kernel
theorem dL_cell_6 : decode cL_cell 6 = .ok (.aload_n 0, 1) := by decide +kernel
theorem dL_cell_7 : decode cL_cell 7 = .ok (.iload_n 1, 1) := by decide +kernel
theorem dL_cell_8 : decode cL_cell 8 = .ok (.iaload, 1) := by decide +kernel
theorem dL_cell_9 : decode cL_cell 9 = .ok (.goto 4, 3) := by decide +kernel
theorem dL_cell_12 : decode cL_cell 12 = .ok (.iconst 0, 1) := by decide +kernel
theorem dL_cell_13 : decode cL_cell 13 = .ok (.ireturn, 1) := by decide +kernel
theorem dL_put_0 : decode cL_put 0 = .ok (.aload 4, 2) := by decide +kernel
theorem dL_put_2 : decode cL_put 2 = .ok (.iconst 0, 1) := by decide +kernel
theorem dL_put_3 : decode cL_put 3 = .ok (.aload_n 0, 1) := by decide +kernel
theorem dL_put_4 : decode cL_put 4 = .ok (.iload_n 1, 1) := by decide +kernel
theorem dL_put_5 : decode cL_put 5 = .ok (.iload_n 2, 1) := by decide +kernel
theorem dL_put_6 : decode cL_put 6 = .ok (.iload_n 3, 1) := by decide +kernel
theorem dL_put_7 : decode cL_put 7 = .ok (.invokevirtual 7, 3) := by decide +kernel
theorem dL_put_10 : decode cL_put 10 = .ok (.i2l, 1) := by decide +kernel
theorem dL_put_11 : decode cL_put 11 = .ok (.lastore, 1) := by decide +kernel
theorem dL_put_12 : decode cL_put 12 = .ok (.goto 11, 3) := by decide +kernel
theorem dL_put_15 : decode cL_put 15 = .ok (.astore 5, 2) := by decide +kernel
theorem dL_put_17 : decode cL_put 17 = .ok (.iconst 1, 1) := by decide +kernel
theorem dL_put_18 : decode cL_put 18 = .ok (.ireturn, 1) := by decide +kernel
theorem dL_put_19 : decode cL_put 19 = .ok (.astore 5, 2) := by decide +kernel
theorem dL_put_21 : decode cL_put 21 = .ok (.iconst 2, 1) := by decide +kernel
theorem dL_put_22 : decode cL_put 22 = .ok (.ireturn, 1) := by decide +kernel
theorem dL_put_23 : decode cL_put 23 = .ok (.iconst 0, 1) := by decide +kernel
theorem dL_put_24 : decode cL_put 24 = .ok (.ireturn, 1) := by decide +kernel
theorem dL_local_0 : decode cL_local 0 = .ok (.aload_n 3, 1) := by decide +kernel
theorem dL_local_1 : decode cL_local 1 = .ok (.iconst 0, 1) := by decide +kernel
theorem dL_local_2 : decode cL_local 2 = .ok (.aload_n 0, 1) := by decide +kernel
theorem dL_local_3 : decode cL_local 3 = .ok (.iload_n 1, 1) := by decide +kernel
theorem dL_local_4 : decode cL_local 4 = .ok (.iload_n 2, 1) := by decide +kernel
theorem dL_local_5 : decode cL_local 5 = .ok (.invokevirtual 17, 3) := by decide +kernel
theorem dL_local_8 : decode cL_local 8 = .ok (.i2l, 1) := by decide +kernel
theorem dL_local_9 : decode cL_local 9 = .ok (.lastore, 1) := by decide +kernel
theorem dL_local_10 : decode cL_local 10 = .ok (.goto 7, 3) := by decide +kernel
theorem dL_local_13 : decode cL_local 13 = .ok (.astore 4, 2) := by decide +kernel
theorem dL_local_15 : decode cL_local 15 = .ok (.iconst 1, 1) := by decide +kernel
theorem dL_local_16 : decode cL_local 16 = .ok (.ireturn, 1) := by decide +kernel
theorem dL_local_17 : decode cL_local 17 = .ok (.iconst 0, 1) := by decide +kernel
theorem dL_local_18 : decode cL_local 18 = .ok (.ireturn, 1) := by decide +kernel
theorem dL_spread_0 : decode cL_spread 0 = .ok (.aload_n 2, 1) := by decide +kernel
theorem dL_spread_1 : decode cL_spread 1 = .ok (.iconst 0, 1) := by decide +kernel
theorem dL_spread_2 : decode cL_spread 2 = .ok (.aload_n 0, 1) := by decide +kernel
theorem dL_spread_3 : decode cL_spread 3 = .ok (.iload_n 1, 1) := by decide +kernel
theorem dL_spread_4 : decode cL_spread 4 = .ok (.invokevirtual 21, 3) := by decide +kernel
theorem dL_spread_7 : decode cL_spread 7 = .ok (.i2l, 1) := by decide +kernel
theorem dL_spread_8 : decode cL_spread 8 = .ok (.lastore, 1) := by decide +kernel
theorem dL_spread_9 : decode cL_spread 9 = .ok (.goto 6, 3) := by decide +kernel
theorem dL_spread_12 : decode cL_spread 12 = .ok (.astore_n 3, 1) := by decide +kernel
theorem dL_spread_13 : decode cL_spread 13 = .ok (.iconst 1, 1) := by decide +kernel
theorem dL_spread_14 : decode cL_spread 14 = .ok (.ireturn, 1) := by decide +kernel
theorem dL_spread_15 : decode cL_spread 15 = .ok (.iconst 0, 1) := by decide +kernel
theorem dL_spread_16 : decode cL_spread 16 = .ok (.ireturn, 1) := by decide +kernel
theorem dL_ordered_0 : decode cL_ordered 0 = .ok (.aload_n 2, 1) := by decide +kernel
theorem dL_ordered_1 : decode cL_ordered 1 = .ok (.iconst 0, 1) := by decide +kernel
theorem dL_ordered_2 : decode cL_ordered 2 = .ok (.aload_n 0, 1) := by decide +kernel
theorem dL_ordered_3 : decode cL_ordered 3 = .ok (.iload_n 1, 1) := by decide +kernel
theorem dL_ordered_4 : decode cL_ordered 4 = .ok (.invokevirtual 25, 3) := by decide +kernel
theorem dL_ordered_7 : decode cL_ordered 7 = .ok (.i2l, 1) := by decide +kernel
theorem dL_ordered_8 : decode cL_ordered 8 = .ok (.lastore, 1) := by decide +kernel
theorem dL_ordered_9 : decode cL_ordered 9 = .ok (.goto 6, 3) := by decide +kernel
theorem dL_ordered_12 : decode cL_ordered 12 = .ok (.astore_n 3, 1) := by decide +kernel
theorem dL_ordered_13 : decode cL_ordered 13 = .ok (.iconst 1, 1) := by decide +kernel
theorem dL_ordered_14 : decode cL_ordered 14 = .ok (.ireturn, 1) := by decide +kernel
theorem dL_ordered_15 : decode cL_ordered 15 = .ok (.iconst 0, 1) := by decide +kernel
theorem dL_ordered_16 : decode cL_ordered 16 = .ok (.ireturn, 1) := by decide +kernel
theorem dL_join_0 : decode cL_join 0 = .ok (.aload_n 3, 1) := by decide +kernel
theorem dL_join_1 : decode cL_join 1 = .ok (.iconst 0, 1) := by decide +kernel
theorem dL_join_2 : decode cL_join 2 = .ok (.aload_n 0, 1) := by decide +kernel
theorem dL_join_3 : decode cL_join 3 = .ok (.iload_n 1, 1) := by decide +kernel
theorem dL_join_4 : decode cL_join 4 = .ok (.iload_n 2, 1) := by decide +kernel
theorem dL_join_5 : decode cL_join 5 = .ok (.invokevirtual 28, 3) := by decide +kernel
theorem dL_join_8 : decode cL_join 8 = .ok (.i2l, 1) := by decide +kernel
theorem dL_join_9 : decode cL_join 9 = .ok (.lastore, 1) := by decide +kernel
theorem dL_join_10 : decode cL_join 10 = .ok (.goto 7, 3) := by decide +kernel
theorem dL_join_13 : decode cL_join 13 = .ok (.astore 4, 2) := by decide +kernel
theorem dL_join_15 : decode cL_join 15 = .ok (.iconst 1, 1) := by decide +kernel
theorem dL_join_16 : decode cL_join 16 = .ok (.ireturn, 1) := by decide +kernel
theorem dL_join_17 : decode cL_join 17 = .ok (.iconst 0, 1) := by decide +kernel
theorem dL_join_18 : decode cL_join 18 = .ok (.ireturn, 1) := by decide +kernel
theorem dL_clean_0 : decode cL_clean 0 = .ok (.aload_n 2, 1) := by decide +kernel
theorem dL_clean_1 : decode cL_clean 1 = .ok (.iconst 0, 1) := by decide +kernel
theorem dL_clean_2 : decode cL_clean 2 = .ok (.aload_n 0, 1) := by decide +kernel
theorem dL_clean_3 : decode cL_clean 3 = .ok (.iload_n 1, 1) := by decide +kernel
theorem dL_clean_4 : decode cL_clean 4 = .ok (.invokevirtual 31, 3) := by decide +kernel
theorem dL_clean_7 : decode cL_clean 7 = .ok (.i2l, 1) := by decide +kernel
theorem dL_clean_8 : decode cL_clean 8 = .ok (.lastore, 1) := by decide +kernel
theorem dL_clean_9 : decode cL_clean 9 = .ok (.goto 6, 3) := by decide +kernel
theorem dL_clean_12 : decode cL_clean 12 = .ok (.astore_n 3, 1) := by decide +kernel
theorem dL_clean_13 : decode cL_clean 13 = .ok (.iconst 1, 1) := by decide +kernel
theorem dL_clean_14 : decode cL_clean 14 = .ok (.ireturn, 1) := by decide +kernel
theorem dL_clean_15 : decode cL_clean 15 = .ok (.iconst 0, 1) := by decide +kernel
theorem dL_clean_16 : decode cL_clean 16 = .ok (.ireturn, 1) := by decide +kernel
theorem dL_at_0 : decode cL_at 0 = .ok (.aload_n 3, 1) := by decide +kernel
theorem dL_at_1 : decode cL_at 1 = .ok (.iconst 0, 1) := by decide +kernel
theorem dL_at_2 : decode cL_at 2 = .ok (.aload_n 0, 1) := by decide +kernel
theorem dL_at_3 : decode cL_at 3 = .ok (.iload_n 1, 1) := by decide +kernel
theorem dL_at_4 : decode cL_at 4 = .ok (.iload_n 2, 1) := by decide +kernel
theorem dL_at_5 : decode cL_at 5 = .ok (.invokevirtual 34, 3) := by decide +kernel
theorem dL_at_8 : decode cL_at 8 = .ok (.ifCond .eq 7, 3) := by decide +kernel
theorem dL_at_11 : decode cL_at 11 = .ok (.lconst 1, 1) := by decide +kernel
theorem dL_at_12 : decode cL_at 12 = .ok (.goto 4, 3) := by decide +kernel
theorem dL_at_15 : decode cL_at 15 = .ok (.lconst 0, 1) := by decide +kernel
theorem dL_at_16 : decode cL_at 16 = .ok (.lastore, 1) := by decide +kernel
theorem dL_at_17 : decode cL_at 17 = .ok (.goto 7, 3) := by decide +kernel
theorem dL_at_20 : decode cL_at 20 = .ok (.astore 4, 2) := by decide +kernel
theorem dL_at_22 : decode cL_at 22 = .ok (.iconst 1, 1) := by decide +kernel
theorem dL_at_23 : decode cL_at 23 = .ok (.ireturn, 1) := by decide +kernel
theorem dL_at_24 : decode cL_at 24 = .ok (.iconst 0, 1) := by decide +kernel
theorem dL_at_25 : decode cL_at 25 = .ok (.ireturn, 1) := by decide +kernel
theorem dL_sum_0 : decode cL_sum 0 = .ok (.aload 6, 2) := by decide +kernel
theorem dL_sum_2 : decode cL_sum 2 = .ok (.iconst 0, 1) := by decide +kernel
theorem dL_sum_3 : decode cL_sum 3 = .ok (.aload_n 0, 1) := by decide +kernel
theorem dL_sum_4 : decode cL_sum 4 = .ok (.iload_n 1, 1) := by decide +kernel
theorem dL_sum_5 : decode cL_sum 5 = .ok (.iload_n 2, 1) := by decide +kernel
theorem dL_sum_6 : decode cL_sum 6 = .ok (.iload_n 3, 1) := by decide +kernel
theorem dL_sum_7 : decode cL_sum 7 = .ok (.iload 4, 2) := by decide +kernel
theorem dL_sum_9 : decode cL_sum 9 = .ok (.iload 5, 2) := by decide +kernel
theorem dL_sum_11 : decode cL_sum 11 = .ok (.invokevirtual 38, 3) := by decide +kernel
theorem dL_sum_14 : decode cL_sum 14 = .ok (.lastore, 1) := by decide +kernel
theorem dL_sum_15 : decode cL_sum 15 = .ok (.goto 7, 3) := by decide +kernel
theorem dL_sum_18 : decode cL_sum 18 = .ok (.astore 7, 2) := by decide +kernel
theorem dL_sum_20 : decode cL_sum 20 = .ok (.iconst 1, 1) := by decide +kernel
theorem dL_sum_21 : decode cL_sum 21 = .ok (.ireturn, 1) := by decide +kernel
theorem dL_sum_22 : decode cL_sum 22 = .ok (.iconst 0, 1) := by decide +kernel
theorem dL_sum_23 : decode cL_sum 23 = .ok (.ireturn, 1) := by decide +kernel
theorem dL_cell__0 : decode cL_cell_ 0 = .ok (.aload 4, 2) := by decide +kernel
theorem dL_cell__2 : decode cL_cell_ 2 = .ok (.iconst 0, 1) := by decide +kernel
theorem dL_cell__3 : decode cL_cell_ 3 = .ok (.aload_n 0, 1) := by decide +kernel
theorem dL_cell__4 : decode cL_cell_ 4 = .ok (.iload_n 1, 1) := by decide +kernel
theorem dL_cell__5 : decode cL_cell_ 5 = .ok (.iload_n 2, 1) := by decide +kernel
theorem dL_cell__6 : decode cL_cell_ 6 = .ok (.iload_n 3, 1) := by decide +kernel
theorem dL_cell__7 : decode cL_cell_ 7 = .ok (.invokevirtual 42, 3) := by decide +kernel
theorem dL_cell__10 : decode cL_cell_ 10 = .ok (.i2l, 1) := by decide +kernel
theorem dL_cell__11 : decode cL_cell_ 11 = .ok (.lastore, 1) := by decide +kernel
theorem dL_cell__12 : decode cL_cell_ 12 = .ok (.goto 7, 3) := by decide +kernel
theorem dL_cell__15 : decode cL_cell_ 15 = .ok (.astore 5, 2) := by decide +kernel
theorem dL_cell__17 : decode cL_cell_ 17 = .ok (.iconst 1, 1) := by decide +kernel
theorem dL_cell__18 : decode cL_cell_ 18 = .ok (.ireturn, 1) := by decide +kernel
theorem dL_cell__19 : decode cL_cell_ 19 = .ok (.iconst 0, 1) := by decide +kernel
theorem dL_cell__20 : decode cL_cell_ 20 = .ok (.ireturn, 1) := by decide +kernel
theorem dL_law_0 : decode cL_law 0 = .ok (.new 8, 3) := by decide +kernel
theorem dL_law_3 : decode cL_law 3 = .ok (.dup, 1) := by decide +kernel
theorem dL_law_4 : decode cL_law 4 = .ok (.aload_n 0, 1) := by decide +kernel
theorem dL_law_5 : decode cL_law 5 = .ok (.iconst 0, 1) := by decide +kernel
theorem dL_law_6 : decode cL_law 6 = .ok (.invokestatic 45, 3) := by decide +kernel
theorem dL_law_9 : decode cL_law 9 = .ok (.aload_n 0, 1) := by decide +kernel
theorem dL_law_10 : decode cL_law 10 = .ok (.iconst 1, 1) := by decide +kernel
theorem dL_law_11 : decode cL_law 11 = .ok (.invokestatic 45, 3) := by decide +kernel
theorem dL_law_14 : decode cL_law 14 = .ok (.invokespecial 50, 3) := by decide +kernel
theorem dL_law_17 : decode cL_law 17 = .ok (.astore_n 1, 1) := by decide +kernel
theorem dL_law_18 : decode cL_law 18 = .ok (.new 53, 3) := by decide +kernel
theorem dL_law_21 : decode cL_law 21 = .ok (.dup, 1) := by decide +kernel
theorem dL_law_22 : decode cL_law 22 = .ok (.aload_n 0, 1) := by decide +kernel
theorem dL_law_23 : decode cL_law 23 = .ok (.iconst 0, 1) := by decide +kernel
theorem dL_law_24 : decode cL_law 24 = .ok (.invokestatic 45, 3) := by decide +kernel
theorem dL_law_27 : decode cL_law 27 = .ok (.aload_n 0, 1) := by decide +kernel
theorem dL_law_28 : decode cL_law 28 = .ok (.iconst 1, 1) := by decide +kernel
theorem dL_law_29 : decode cL_law 29 = .ok (.invokestatic 45, 3) := by decide +kernel
theorem dL_law_32 : decode cL_law 32 = .ok (.invokespecial 55, 3) := by decide +kernel
theorem dL_law_35 : decode cL_law 35 = .ok (.astore_n 2, 1) := by decide +kernel
theorem dL_law_36 : decode cL_law 36 = .ok (.iconst 1, 1) := by decide +kernel
theorem dL_law_37 : decode cL_law 37 = .ok (.newarray .long, 2) := by decide +kernel
theorem dL_law_39 : decode cL_law 39 = .ok (.astore_n 3, 1) := by decide +kernel
theorem dL_law_40 : decode cL_law 40 = .ok (.iconst 2, 1) := by decide +kernel
theorem dL_law_41 : decode cL_law 41 = .ok (.istore 4, 2) := by decide +kernel
theorem dL_law_43 : decode cL_law 43 = .ok (.iload 4, 2) := by decide +kernel
theorem dL_law_45 : decode cL_law 45 = .ok (.aload_n 0, 1) := by decide +kernel
theorem dL_law_46 : decode cL_law 46 = .ok (.arraylength, 1) := by decide +kernel
theorem dL_law_47 : decode cL_law 47 = .ok (.bipush 6, 2) := by decide +kernel
theorem dL_law_49 : decode cL_law 49 = .ok (.isub, 1) := by decide +kernel
theorem dL_law_50 : decode cL_law 50 = .ok (.if_icmp .gt 880, 3) := by decide +kernel
theorem dL_law_53 : decode cL_law 53 = .ok (.aload_n 0, 1) := by decide +kernel
theorem dL_law_54 : decode cL_law 54 = .ok (.iload 4, 2) := by decide +kernel
theorem dL_law_56 : decode cL_law 56 = .ok (.iaload, 1) := by decide +kernel
theorem dL_law_57 : decode cL_law 57 = .ok (.bipush 15, 2) := by decide +kernel
theorem dL_law_59 : decode cL_law 59 = .ok (.iand, 1) := by decide +kernel
theorem dL_law_60 : decode cL_law 60 = .ok (.tableswitch 864 0 15 #[80, 160, 197, 210, 278, 334, 348, 404, 472, 528, 541, 554, 629, 748, 828, 853], 80) := by decide +kernel
theorem dL_law_140 : decode cL_law 140 = .ok (.aload_n 1, 1) := by decide +kernel
theorem dL_law_141 : decode cL_law 141 = .ok (.aload_n 0, 1) := by decide +kernel
theorem dL_law_142 : decode cL_law 142 = .ok (.iload 4, 2) := by decide +kernel
theorem dL_law_144 : decode cL_law 144 = .ok (.iconst 1, 1) := by decide +kernel
theorem dL_law_145 : decode cL_law 145 = .ok (.iadd, 1) := by decide +kernel
theorem dL_law_146 : decode cL_law 146 = .ok (.iaload, 1) := by decide +kernel
theorem dL_law_147 : decode cL_law 147 = .ok (.aload_n 0, 1) := by decide +kernel
theorem dL_law_148 : decode cL_law 148 = .ok (.iload 4, 2) := by decide +kernel
theorem dL_law_150 : decode cL_law 150 = .ok (.iconst 2, 1) := by decide +kernel
theorem dL_law_151 : decode cL_law 151 = .ok (.iadd, 1) := by decide +kernel
theorem dL_law_152 : decode cL_law 152 = .ok (.iaload, 1) := by decide +kernel
theorem dL_law_153 : decode cL_law 153 = .ok (.aload_n 0, 1) := by decide +kernel
theorem dL_law_154 : decode cL_law 154 = .ok (.iload 4, 2) := by decide +kernel
theorem dL_law_156 : decode cL_law 156 = .ok (.iconst 3, 1) := by decide +kernel
theorem dL_law_157 : decode cL_law 157 = .ok (.iadd, 1) := by decide +kernel
theorem dL_law_158 : decode cL_law 158 = .ok (.iaload, 1) := by decide +kernel
theorem dL_law_159 : decode cL_law 159 = .ok (.aload_n 3, 1) := by decide +kernel
theorem dL_law_160 : decode cL_law 160 = .ok (.invokestatic 56, 3) := by decide +kernel
theorem dL_law_163 : decode cL_law 163 = .ok (.istore 5, 2) := by decide +kernel
theorem dL_law_165 : decode cL_law 165 = .ok (.aload_n 2, 1) := by decide +kernel
theorem dL_law_166 : decode cL_law 166 = .ok (.aload_n 0, 1) := by decide +kernel
theorem dL_law_167 : decode cL_law 167 = .ok (.iload 4, 2) := by decide +kernel
theorem dL_law_169 : decode cL_law 169 = .ok (.iconst 1, 1) := by decide +kernel
theorem dL_law_170 : decode cL_law 170 = .ok (.iadd, 1) := by decide +kernel
theorem dL_law_171 : decode cL_law 171 = .ok (.iaload, 1) := by decide +kernel
theorem dL_law_172 : decode cL_law 172 = .ok (.aload_n 0, 1) := by decide +kernel
theorem dL_law_173 : decode cL_law 173 = .ok (.iload 4, 2) := by decide +kernel
theorem dL_law_175 : decode cL_law 175 = .ok (.iconst 2, 1) := by decide +kernel
theorem dL_law_176 : decode cL_law 176 = .ok (.iadd, 1) := by decide +kernel
theorem dL_law_177 : decode cL_law 177 = .ok (.iaload, 1) := by decide +kernel
theorem dL_law_178 : decode cL_law 178 = .ok (.aload_n 0, 1) := by decide +kernel
theorem dL_law_179 : decode cL_law 179 = .ok (.iload 4, 2) := by decide +kernel
theorem dL_law_181 : decode cL_law 181 = .ok (.iconst 3, 1) := by decide +kernel
theorem dL_law_182 : decode cL_law 182 = .ok (.iadd, 1) := by decide +kernel
theorem dL_law_183 : decode cL_law 183 = .ok (.iaload, 1) := by decide +kernel
theorem dL_law_184 : decode cL_law 184 = .ok (.invokevirtual 59, 3) := by decide +kernel
theorem dL_law_187 : decode cL_law 187 = .ok (.istore 6, 2) := by decide +kernel
theorem dL_law_189 : decode cL_law 189 = .ok (.aload_n 2, 1) := by decide +kernel
theorem dL_law_190 : decode cL_law 190 = .ok (.invokevirtual 60, 3) := by decide +kernel
theorem dL_law_193 : decode cL_law 193 = .ok (.iload 5, 2) := by decide +kernel
theorem dL_law_195 : decode cL_law 195 = .ok (.if_icmp .eq 5, 3) := by decide +kernel
theorem dL_law_198 : decode cL_law 198 = .ok (.iconst 0, 1) := by decide +kernel
theorem dL_law_199 : decode cL_law 199 = .ok (.ireturn, 1) := by decide +kernel
theorem dL_law_200 : decode cL_law 200 = .ok (.iload 5, 2) := by decide +kernel
theorem dL_law_202 : decode cL_law 202 = .ok (.ifCond .ne 15, 3) := by decide +kernel
theorem dL_law_205 : decode cL_law 205 = .ok (.aload_n 3, 1) := by decide +kernel
theorem dL_law_206 : decode cL_law 206 = .ok (.iconst 0, 1) := by decide +kernel
theorem dL_law_207 : decode cL_law 207 = .ok (.laload, 1) := by decide +kernel
theorem dL_law_208 : decode cL_law 208 = .ok (.iload 6, 2) := by decide +kernel
theorem dL_law_210 : decode cL_law 210 = .ok (.i2l, 1) := by decide +kernel
theorem dL_law_211 : decode cL_law 211 = .ok (.lcmp, 1) := by decide +kernel
theorem dL_law_212 : decode cL_law 212 = .ok (.ifCond .eq 5, 3) := by decide +kernel
theorem dL_law_215 : decode cL_law 215 = .ok (.iconst 0, 1) := by decide +kernel
theorem dL_law_216 : decode cL_law 216 = .ok (.ireturn, 1) := by decide +kernel
theorem dL_law_217 : decode cL_law 217 = .ok (.goto 707, 3) := by decide +kernel
theorem dL_law_220 : decode cL_law 220 = .ok (.aload_n 1, 1) := by decide +kernel
theorem dL_law_221 : decode cL_law 221 = .ok (.aload_n 0, 1) := by decide +kernel
theorem dL_law_222 : decode cL_law 222 = .ok (.iload 4, 2) := by decide +kernel
theorem dL_law_224 : decode cL_law 224 = .ok (.iconst 1, 1) := by decide +kernel
theorem dL_law_225 : decode cL_law 225 = .ok (.iadd, 1) := by decide +kernel
theorem dL_law_226 : decode cL_law 226 = .ok (.iaload, 1) := by decide +kernel
theorem dL_law_227 : decode cL_law 227 = .ok (.aload_n 0, 1) := by decide +kernel
theorem dL_law_228 : decode cL_law 228 = .ok (.iload 4, 2) := by decide +kernel
theorem dL_law_230 : decode cL_law 230 = .ok (.iconst 2, 1) := by decide +kernel
theorem dL_law_231 : decode cL_law 231 = .ok (.iadd, 1) := by decide +kernel
theorem dL_law_232 : decode cL_law 232 = .ok (.iaload, 1) := by decide +kernel
theorem dL_law_233 : decode cL_law 233 = .ok (.invokevirtual 64, 3) := by decide +kernel
theorem dL_law_236 : decode cL_law 236 = .ok (.aload_n 2, 1) := by decide +kernel
theorem dL_law_237 : decode cL_law 237 = .ok (.aload_n 0, 1) := by decide +kernel
theorem dL_law_238 : decode cL_law 238 = .ok (.iload 4, 2) := by decide +kernel
theorem dL_law_240 : decode cL_law 240 = .ok (.iconst 1, 1) := by decide +kernel
theorem dL_law_241 : decode cL_law 241 = .ok (.iadd, 1) := by decide +kernel
theorem dL_law_242 : decode cL_law 242 = .ok (.iaload, 1) := by decide +kernel
theorem dL_law_243 : decode cL_law 243 = .ok (.aload_n 0, 1) := by decide +kernel
theorem dL_law_244 : decode cL_law 244 = .ok (.iload 4, 2) := by decide +kernel
theorem dL_law_246 : decode cL_law 246 = .ok (.iconst 2, 1) := by decide +kernel
theorem dL_law_247 : decode cL_law 247 = .ok (.iadd, 1) := by decide +kernel
theorem dL_law_248 : decode cL_law 248 = .ok (.iaload, 1) := by decide +kernel
theorem dL_law_249 : decode cL_law 249 = .ok (.invokevirtual 67, 3) := by decide +kernel
theorem dL_law_252 : decode cL_law 252 = .ok (.if_icmp .eq 672, 3) := by decide +kernel
theorem dL_law_255 : decode cL_law 255 = .ok (.iconst 0, 1) := by decide +kernel
theorem dL_law_256 : decode cL_law 256 = .ok (.ireturn, 1) := by decide +kernel
theorem dL_law_257 : decode cL_law 257 = .ok (.aload_n 1, 1) := by decide +kernel
theorem dL_law_258 : decode cL_law 258 = .ok (.invokevirtual 68, 3) := by decide +kernel
theorem dL_law_261 : decode cL_law 261 = .ok (.aload_n 2, 1) := by decide +kernel
theorem dL_law_262 : decode cL_law 262 = .ok (.invokevirtual 71, 3) := by decide +kernel
theorem dL_law_265 : decode cL_law 265 = .ok (.if_icmp .eq 659, 3) := by decide +kernel
theorem dL_law_268 : decode cL_law 268 = .ok (.iconst 0, 1) := by decide +kernel
theorem dL_law_269 : decode cL_law 269 = .ok (.ireturn, 1) := by decide +kernel
theorem dL_law_270 : decode cL_law 270 = .ok (.aload_n 1, 1) := by decide +kernel
theorem dL_law_271 : decode cL_law 271 = .ok (.aload_n 0, 1) := by decide +kernel
theorem dL_law_272 : decode cL_law 272 = .ok (.iload 4, 2) := by decide +kernel
theorem dL_law_274 : decode cL_law 274 = .ok (.iconst 1, 1) := by decide +kernel
theorem dL_law_275 : decode cL_law 275 = .ok (.iadd, 1) := by decide +kernel
theorem dL_law_276 : decode cL_law 276 = .ok (.iaload, 1) := by decide +kernel
theorem dL_law_277 : decode cL_law 277 = .ok (.aload_n 0, 1) := by decide +kernel
theorem dL_law_278 : decode cL_law 278 = .ok (.iload 4, 2) := by decide +kernel
theorem dL_law_280 : decode cL_law 280 = .ok (.iconst 2, 1) := by decide +kernel
theorem dL_law_281 : decode cL_law 281 = .ok (.iadd, 1) := by decide +kernel
theorem dL_law_282 : decode cL_law 282 = .ok (.iaload, 1) := by decide +kernel
theorem dL_law_283 : decode cL_law 283 = .ok (.aload_n 3, 1) := by decide +kernel
theorem dL_law_284 : decode cL_law 284 = .ok (.invokestatic 72, 3) := by decide +kernel
theorem dL_law_287 : decode cL_law 287 = .ok (.istore 5, 2) := by decide +kernel
theorem dL_law_289 : decode cL_law 289 = .ok (.aload_n 2, 1) := by decide +kernel
theorem dL_law_290 : decode cL_law 290 = .ok (.aload_n 0, 1) := by decide +kernel
theorem dL_law_291 : decode cL_law 291 = .ok (.iload 4, 2) := by decide +kernel
theorem dL_law_293 : decode cL_law 293 = .ok (.iconst 1, 1) := by decide +kernel
theorem dL_law_294 : decode cL_law 294 = .ok (.iadd, 1) := by decide +kernel
theorem dL_law_295 : decode cL_law 295 = .ok (.iaload, 1) := by decide +kernel
theorem dL_law_296 : decode cL_law 296 = .ok (.aload_n 0, 1) := by decide +kernel
theorem dL_law_297 : decode cL_law 297 = .ok (.iload 4, 2) := by decide +kernel
theorem dL_law_299 : decode cL_law 299 = .ok (.iconst 2, 1) := by decide +kernel
theorem dL_law_300 : decode cL_law 300 = .ok (.iadd, 1) := by decide +kernel
theorem dL_law_301 : decode cL_law 301 = .ok (.iaload, 1) := by decide +kernel
theorem dL_law_302 : decode cL_law 302 = .ok (.invokevirtual 75, 3) := by decide +kernel
theorem dL_law_305 : decode cL_law 305 = .ok (.istore 6, 2) := by decide +kernel
theorem dL_law_307 : decode cL_law 307 = .ok (.aload_n 2, 1) := by decide +kernel
theorem dL_law_308 : decode cL_law 308 = .ok (.invokevirtual 60, 3) := by decide +kernel
theorem dL_law_311 : decode cL_law 311 = .ok (.iload 5, 2) := by decide +kernel
theorem dL_law_313 : decode cL_law 313 = .ok (.if_icmp .eq 5, 3) := by decide +kernel
theorem dL_law_316 : decode cL_law 316 = .ok (.iconst 0, 1) := by decide +kernel
theorem dL_law_317 : decode cL_law 317 = .ok (.ireturn, 1) := by decide +kernel
theorem dL_law_318 : decode cL_law 318 = .ok (.iload 5, 2) := by decide +kernel
theorem dL_law_320 : decode cL_law 320 = .ok (.ifCond .ne 15, 3) := by decide +kernel
theorem dL_law_323 : decode cL_law 323 = .ok (.aload_n 3, 1) := by decide +kernel
theorem dL_law_324 : decode cL_law 324 = .ok (.iconst 0, 1) := by decide +kernel
theorem dL_law_325 : decode cL_law 325 = .ok (.laload, 1) := by decide +kernel
theorem dL_law_326 : decode cL_law 326 = .ok (.iload 6, 2) := by decide +kernel
theorem dL_law_328 : decode cL_law 328 = .ok (.i2l, 1) := by decide +kernel
theorem dL_law_329 : decode cL_law 329 = .ok (.lcmp, 1) := by decide +kernel
theorem dL_law_330 : decode cL_law 330 = .ok (.ifCond .eq 5, 3) := by decide +kernel
theorem dL_law_333 : decode cL_law 333 = .ok (.iconst 0, 1) := by decide +kernel
theorem dL_law_334 : decode cL_law 334 = .ok (.ireturn, 1) := by decide +kernel
theorem dL_law_335 : decode cL_law 335 = .ok (.goto 589, 3) := by decide +kernel
theorem dL_law_338 : decode cL_law 338 = .ok (.aload_n 1, 1) := by decide +kernel
theorem dL_law_339 : decode cL_law 339 = .ok (.aload_n 0, 1) := by decide +kernel
theorem dL_law_340 : decode cL_law 340 = .ok (.iload 4, 2) := by decide +kernel
theorem dL_law_342 : decode cL_law 342 = .ok (.iconst 1, 1) := by decide +kernel
theorem dL_law_343 : decode cL_law 343 = .ok (.iadd, 1) := by decide +kernel
theorem dL_law_344 : decode cL_law 344 = .ok (.iaload, 1) := by decide +kernel
theorem dL_law_345 : decode cL_law 345 = .ok (.aload_n 3, 1) := by decide +kernel
theorem dL_law_346 : decode cL_law 346 = .ok (.invokestatic 76, 3) := by decide +kernel
theorem dL_law_349 : decode cL_law 349 = .ok (.istore 5, 2) := by decide +kernel
theorem dL_law_351 : decode cL_law 351 = .ok (.aload_n 2, 1) := by decide +kernel
theorem dL_law_352 : decode cL_law 352 = .ok (.aload_n 0, 1) := by decide +kernel
theorem dL_law_353 : decode cL_law 353 = .ok (.iload 4, 2) := by decide +kernel
theorem dL_law_355 : decode cL_law 355 = .ok (.iconst 1, 1) := by decide +kernel
theorem dL_law_356 : decode cL_law 356 = .ok (.iadd, 1) := by decide +kernel
theorem dL_law_357 : decode cL_law 357 = .ok (.iaload, 1) := by decide +kernel
theorem dL_law_358 : decode cL_law 358 = .ok (.invokevirtual 79, 3) := by decide +kernel
theorem dL_law_361 : decode cL_law 361 = .ok (.istore 6, 2) := by decide +kernel
theorem dL_law_363 : decode cL_law 363 = .ok (.aload_n 2, 1) := by decide +kernel
theorem dL_law_364 : decode cL_law 364 = .ok (.invokevirtual 60, 3) := by decide +kernel
theorem dL_law_367 : decode cL_law 367 = .ok (.iload 5, 2) := by decide +kernel
theorem dL_law_369 : decode cL_law 369 = .ok (.if_icmp .eq 5, 3) := by decide +kernel
theorem dL_law_372 : decode cL_law 372 = .ok (.iconst 0, 1) := by decide +kernel
theorem dL_law_373 : decode cL_law 373 = .ok (.ireturn, 1) := by decide +kernel
theorem dL_law_374 : decode cL_law 374 = .ok (.iload 5, 2) := by decide +kernel
theorem dL_law_376 : decode cL_law 376 = .ok (.ifCond .ne 15, 3) := by decide +kernel
theorem dL_law_379 : decode cL_law 379 = .ok (.aload_n 3, 1) := by decide +kernel
theorem dL_law_380 : decode cL_law 380 = .ok (.iconst 0, 1) := by decide +kernel
theorem dL_law_381 : decode cL_law 381 = .ok (.laload, 1) := by decide +kernel
theorem dL_law_382 : decode cL_law 382 = .ok (.iload 6, 2) := by decide +kernel
theorem dL_law_384 : decode cL_law 384 = .ok (.i2l, 1) := by decide +kernel
theorem dL_law_385 : decode cL_law 385 = .ok (.lcmp, 1) := by decide +kernel
theorem dL_law_386 : decode cL_law 386 = .ok (.ifCond .eq 5, 3) := by decide +kernel
theorem dL_law_389 : decode cL_law 389 = .ok (.iconst 0, 1) := by decide +kernel
theorem dL_law_390 : decode cL_law 390 = .ok (.ireturn, 1) := by decide +kernel
theorem dL_law_391 : decode cL_law 391 = .ok (.goto 533, 3) := by decide +kernel
theorem dL_law_394 : decode cL_law 394 = .ok (.aload_n 1, 1) := by decide +kernel
theorem dL_law_395 : decode cL_law 395 = .ok (.invokevirtual 80, 3) := by decide +kernel
theorem dL_law_398 : decode cL_law 398 = .ok (.aload_n 2, 1) := by decide +kernel
theorem dL_law_399 : decode cL_law 399 = .ok (.invokevirtual 84, 3) := by decide +kernel
theorem dL_law_402 : decode cL_law 402 = .ok (.lcmp, 1) := by decide +kernel
theorem dL_law_403 : decode cL_law 403 = .ok (.ifCond .eq 521, 3) := by decide +kernel
theorem dL_law_406 : decode cL_law 406 = .ok (.iconst 0, 1) := by decide +kernel
theorem dL_law_407 : decode cL_law 407 = .ok (.ireturn, 1) := by decide +kernel
theorem dL_law_408 : decode cL_law 408 = .ok (.aload_n 1, 1) := by decide +kernel
theorem dL_law_409 : decode cL_law 409 = .ok (.aload_n 0, 1) := by decide +kernel
theorem dL_law_410 : decode cL_law 410 = .ok (.iload 4, 2) := by decide +kernel
theorem dL_law_412 : decode cL_law 412 = .ok (.iconst 1, 1) := by decide +kernel
theorem dL_law_413 : decode cL_law 413 = .ok (.iadd, 1) := by decide +kernel
theorem dL_law_414 : decode cL_law 414 = .ok (.iaload, 1) := by decide +kernel
theorem dL_law_415 : decode cL_law 415 = .ok (.aload_n 3, 1) := by decide +kernel
theorem dL_law_416 : decode cL_law 416 = .ok (.invokestatic 85, 3) := by decide +kernel
theorem dL_law_419 : decode cL_law 419 = .ok (.istore 5, 2) := by decide +kernel
theorem dL_law_421 : decode cL_law 421 = .ok (.aload_n 2, 1) := by decide +kernel
theorem dL_law_422 : decode cL_law 422 = .ok (.aload_n 0, 1) := by decide +kernel
theorem dL_law_423 : decode cL_law 423 = .ok (.iload 4, 2) := by decide +kernel
theorem dL_law_425 : decode cL_law 425 = .ok (.iconst 1, 1) := by decide +kernel
theorem dL_law_426 : decode cL_law 426 = .ok (.iadd, 1) := by decide +kernel
theorem dL_law_427 : decode cL_law 427 = .ok (.iaload, 1) := by decide +kernel
theorem dL_law_428 : decode cL_law 428 = .ok (.invokevirtual 87, 3) := by decide +kernel
theorem dL_law_431 : decode cL_law 431 = .ok (.istore 6, 2) := by decide +kernel
theorem dL_law_433 : decode cL_law 433 = .ok (.aload_n 2, 1) := by decide +kernel
theorem dL_law_434 : decode cL_law 434 = .ok (.invokevirtual 60, 3) := by decide +kernel
theorem dL_law_437 : decode cL_law 437 = .ok (.iload 5, 2) := by decide +kernel
theorem dL_law_439 : decode cL_law 439 = .ok (.if_icmp .eq 5, 3) := by decide +kernel
theorem dL_law_442 : decode cL_law 442 = .ok (.iconst 0, 1) := by decide +kernel
theorem dL_law_443 : decode cL_law 443 = .ok (.ireturn, 1) := by decide +kernel
theorem dL_law_444 : decode cL_law 444 = .ok (.iload 5, 2) := by decide +kernel
theorem dL_law_446 : decode cL_law 446 = .ok (.ifCond .ne 15, 3) := by decide +kernel
theorem dL_law_449 : decode cL_law 449 = .ok (.aload_n 3, 1) := by decide +kernel
theorem dL_law_450 : decode cL_law 450 = .ok (.iconst 0, 1) := by decide +kernel
theorem dL_law_451 : decode cL_law 451 = .ok (.laload, 1) := by decide +kernel
theorem dL_law_452 : decode cL_law 452 = .ok (.iload 6, 2) := by decide +kernel
theorem dL_law_454 : decode cL_law 454 = .ok (.i2l, 1) := by decide +kernel
theorem dL_law_455 : decode cL_law 455 = .ok (.lcmp, 1) := by decide +kernel
theorem dL_law_456 : decode cL_law 456 = .ok (.ifCond .eq 5, 3) := by decide +kernel
theorem dL_law_459 : decode cL_law 459 = .ok (.iconst 0, 1) := by decide +kernel
theorem dL_law_460 : decode cL_law 460 = .ok (.ireturn, 1) := by decide +kernel
theorem dL_law_461 : decode cL_law 461 = .ok (.goto 463, 3) := by decide +kernel
theorem dL_law_464 : decode cL_law 464 = .ok (.aload_n 1, 1) := by decide +kernel
theorem dL_law_465 : decode cL_law 465 = .ok (.aload_n 0, 1) := by decide +kernel
theorem dL_law_466 : decode cL_law 466 = .ok (.iload 4, 2) := by decide +kernel
theorem dL_law_468 : decode cL_law 468 = .ok (.iconst 1, 1) := by decide +kernel
theorem dL_law_469 : decode cL_law 469 = .ok (.iadd, 1) := by decide +kernel
theorem dL_law_470 : decode cL_law 470 = .ok (.iaload, 1) := by decide +kernel
theorem dL_law_471 : decode cL_law 471 = .ok (.aload_n 0, 1) := by decide +kernel
theorem dL_law_472 : decode cL_law 472 = .ok (.iload 4, 2) := by decide +kernel
theorem dL_law_474 : decode cL_law 474 = .ok (.iconst 2, 1) := by decide +kernel
theorem dL_law_475 : decode cL_law 475 = .ok (.iadd, 1) := by decide +kernel
theorem dL_law_476 : decode cL_law 476 = .ok (.iaload, 1) := by decide +kernel
theorem dL_law_477 : decode cL_law 477 = .ok (.aload_n 3, 1) := by decide +kernel
theorem dL_law_478 : decode cL_law 478 = .ok (.invokestatic 88, 3) := by decide +kernel
theorem dL_law_481 : decode cL_law 481 = .ok (.istore 5, 2) := by decide +kernel
theorem dL_law_483 : decode cL_law 483 = .ok (.aload_n 2, 1) := by decide +kernel
theorem dL_law_484 : decode cL_law 484 = .ok (.aload_n 0, 1) := by decide +kernel
theorem dL_law_485 : decode cL_law 485 = .ok (.iload 4, 2) := by decide +kernel
theorem dL_law_487 : decode cL_law 487 = .ok (.iconst 1, 1) := by decide +kernel
theorem dL_law_488 : decode cL_law 488 = .ok (.iadd, 1) := by decide +kernel
theorem dL_law_489 : decode cL_law 489 = .ok (.iaload, 1) := by decide +kernel
theorem dL_law_490 : decode cL_law 490 = .ok (.aload_n 0, 1) := by decide +kernel
theorem dL_law_491 : decode cL_law 491 = .ok (.iload 4, 2) := by decide +kernel
theorem dL_law_493 : decode cL_law 493 = .ok (.iconst 2, 1) := by decide +kernel
theorem dL_law_494 : decode cL_law 494 = .ok (.iadd, 1) := by decide +kernel
theorem dL_law_495 : decode cL_law 495 = .ok (.iaload, 1) := by decide +kernel
theorem dL_law_496 : decode cL_law 496 = .ok (.invokevirtual 90, 3) := by decide +kernel
theorem dL_law_499 : decode cL_law 499 = .ok (.istore 6, 2) := by decide +kernel
theorem dL_law_501 : decode cL_law 501 = .ok (.aload_n 2, 1) := by decide +kernel
theorem dL_law_502 : decode cL_law 502 = .ok (.invokevirtual 60, 3) := by decide +kernel
theorem dL_law_505 : decode cL_law 505 = .ok (.iload 5, 2) := by decide +kernel
theorem dL_law_507 : decode cL_law 507 = .ok (.if_icmp .eq 5, 3) := by decide +kernel
theorem dL_law_510 : decode cL_law 510 = .ok (.iconst 0, 1) := by decide +kernel
theorem dL_law_511 : decode cL_law 511 = .ok (.ireturn, 1) := by decide +kernel
theorem dL_law_512 : decode cL_law 512 = .ok (.iload 5, 2) := by decide +kernel
theorem dL_law_514 : decode cL_law 514 = .ok (.ifCond .ne 15, 3) := by decide +kernel
theorem dL_law_517 : decode cL_law 517 = .ok (.aload_n 3, 1) := by decide +kernel
theorem dL_law_518 : decode cL_law 518 = .ok (.iconst 0, 1) := by decide +kernel
theorem dL_law_519 : decode cL_law 519 = .ok (.laload, 1) := by decide +kernel
theorem dL_law_520 : decode cL_law 520 = .ok (.iload 6, 2) := by decide +kernel
theorem dL_law_522 : decode cL_law 522 = .ok (.i2l, 1) := by decide +kernel
theorem dL_law_523 : decode cL_law 523 = .ok (.lcmp, 1) := by decide +kernel
theorem dL_law_524 : decode cL_law 524 = .ok (.ifCond .eq 5, 3) := by decide +kernel
theorem dL_law_527 : decode cL_law 527 = .ok (.iconst 0, 1) := by decide +kernel
theorem dL_law_528 : decode cL_law 528 = .ok (.ireturn, 1) := by decide +kernel
theorem dL_law_529 : decode cL_law 529 = .ok (.goto 395, 3) := by decide +kernel
theorem dL_law_532 : decode cL_law 532 = .ok (.aload_n 1, 1) := by decide +kernel
theorem dL_law_533 : decode cL_law 533 = .ok (.aload_n 0, 1) := by decide +kernel
theorem dL_law_534 : decode cL_law 534 = .ok (.iload 4, 2) := by decide +kernel
theorem dL_law_536 : decode cL_law 536 = .ok (.iconst 1, 1) := by decide +kernel
theorem dL_law_537 : decode cL_law 537 = .ok (.iadd, 1) := by decide +kernel
theorem dL_law_538 : decode cL_law 538 = .ok (.iaload, 1) := by decide +kernel
theorem dL_law_539 : decode cL_law 539 = .ok (.aload_n 3, 1) := by decide +kernel
theorem dL_law_540 : decode cL_law 540 = .ok (.invokestatic 91, 3) := by decide +kernel
theorem dL_law_543 : decode cL_law 543 = .ok (.istore 5, 2) := by decide +kernel
theorem dL_law_545 : decode cL_law 545 = .ok (.aload_n 2, 1) := by decide +kernel
theorem dL_law_546 : decode cL_law 546 = .ok (.aload_n 0, 1) := by decide +kernel
theorem dL_law_547 : decode cL_law 547 = .ok (.iload 4, 2) := by decide +kernel
theorem dL_law_549 : decode cL_law 549 = .ok (.iconst 1, 1) := by decide +kernel
theorem dL_law_550 : decode cL_law 550 = .ok (.iadd, 1) := by decide +kernel
theorem dL_law_551 : decode cL_law 551 = .ok (.iaload, 1) := by decide +kernel
theorem dL_law_552 : decode cL_law 552 = .ok (.invokevirtual 93, 3) := by decide +kernel
theorem dL_law_555 : decode cL_law 555 = .ok (.istore 6, 2) := by decide +kernel
theorem dL_law_557 : decode cL_law 557 = .ok (.aload_n 2, 1) := by decide +kernel
theorem dL_law_558 : decode cL_law 558 = .ok (.invokevirtual 60, 3) := by decide +kernel
theorem dL_law_561 : decode cL_law 561 = .ok (.iload 5, 2) := by decide +kernel
theorem dL_law_563 : decode cL_law 563 = .ok (.if_icmp .eq 5, 3) := by decide +kernel
theorem dL_law_566 : decode cL_law 566 = .ok (.iconst 0, 1) := by decide +kernel
theorem dL_law_567 : decode cL_law 567 = .ok (.ireturn, 1) := by decide +kernel
theorem dL_law_568 : decode cL_law 568 = .ok (.iload 5, 2) := by decide +kernel
theorem dL_law_570 : decode cL_law 570 = .ok (.ifCond .ne 15, 3) := by decide +kernel
theorem dL_law_573 : decode cL_law 573 = .ok (.aload_n 3, 1) := by decide +kernel
theorem dL_law_574 : decode cL_law 574 = .ok (.iconst 0, 1) := by decide +kernel
theorem dL_law_575 : decode cL_law 575 = .ok (.laload, 1) := by decide +kernel
theorem dL_law_576 : decode cL_law 576 = .ok (.iload 6, 2) := by decide +kernel
theorem dL_law_578 : decode cL_law 578 = .ok (.i2l, 1) := by decide +kernel
theorem dL_law_579 : decode cL_law 579 = .ok (.lcmp, 1) := by decide +kernel
theorem dL_law_580 : decode cL_law 580 = .ok (.ifCond .eq 5, 3) := by decide +kernel
theorem dL_law_583 : decode cL_law 583 = .ok (.iconst 0, 1) := by decide +kernel
theorem dL_law_584 : decode cL_law 584 = .ok (.ireturn, 1) := by decide +kernel
theorem dL_law_585 : decode cL_law 585 = .ok (.goto 339, 3) := by decide +kernel
theorem dL_law_588 : decode cL_law 588 = .ok (.aload_n 1, 1) := by decide +kernel
theorem dL_law_589 : decode cL_law 589 = .ok (.invokevirtual 94, 3) := by decide +kernel
theorem dL_law_592 : decode cL_law 592 = .ok (.aload_n 2, 1) := by decide +kernel
theorem dL_law_593 : decode cL_law 593 = .ok (.invokevirtual 97, 3) := by decide +kernel
theorem dL_law_596 : decode cL_law 596 = .ok (.if_icmp .eq 328, 3) := by decide +kernel
theorem dL_law_599 : decode cL_law 599 = .ok (.iconst 0, 1) := by decide +kernel
theorem dL_law_600 : decode cL_law 600 = .ok (.ireturn, 1) := by decide +kernel
theorem dL_law_601 : decode cL_law 601 = .ok (.aload_n 1, 1) := by decide +kernel
theorem dL_law_602 : decode cL_law 602 = .ok (.invokevirtual 98, 3) := by decide +kernel
theorem dL_law_605 : decode cL_law 605 = .ok (.aload_n 2, 1) := by decide +kernel
theorem dL_law_606 : decode cL_law 606 = .ok (.invokevirtual 101, 3) := by decide +kernel
theorem dL_law_609 : decode cL_law 609 = .ok (.if_icmp .eq 315, 3) := by decide +kernel
theorem dL_law_612 : decode cL_law 612 = .ok (.iconst 0, 1) := by decide +kernel
theorem dL_law_613 : decode cL_law 613 = .ok (.ireturn, 1) := by decide +kernel
theorem dL_law_614 : decode cL_law 614 = .ok (.aload_n 1, 1) := by decide +kernel
theorem dL_law_615 : decode cL_law 615 = .ok (.aload_n 0, 1) := by decide +kernel
theorem dL_law_616 : decode cL_law 616 = .ok (.iload 4, 2) := by decide +kernel
theorem dL_law_618 : decode cL_law 618 = .ok (.iconst 1, 1) := by decide +kernel
theorem dL_law_619 : decode cL_law 619 = .ok (.iadd, 1) := by decide +kernel
theorem dL_law_620 : decode cL_law 620 = .ok (.iaload, 1) := by decide +kernel
theorem dL_law_621 : decode cL_law 621 = .ok (.aload_n 0, 1) := by decide +kernel
theorem dL_law_622 : decode cL_law 622 = .ok (.iload 4, 2) := by decide +kernel
theorem dL_law_624 : decode cL_law 624 = .ok (.iconst 2, 1) := by decide +kernel
theorem dL_law_625 : decode cL_law 625 = .ok (.iadd, 1) := by decide +kernel
theorem dL_law_626 : decode cL_law 626 = .ok (.iaload, 1) := by decide +kernel
theorem dL_law_627 : decode cL_law 627 = .ok (.aload_n 3, 1) := by decide +kernel
theorem dL_law_628 : decode cL_law 628 = .ok (.invokestatic 102, 3) := by decide +kernel
theorem dL_law_631 : decode cL_law 631 = .ok (.istore 5, 2) := by decide +kernel
theorem dL_law_633 : decode cL_law 633 = .ok (.aload_n 2, 1) := by decide +kernel
theorem dL_law_634 : decode cL_law 634 = .ok (.aload_n 0, 1) := by decide +kernel
theorem dL_law_635 : decode cL_law 635 = .ok (.iload 4, 2) := by decide +kernel
theorem dL_law_637 : decode cL_law 637 = .ok (.iconst 1, 1) := by decide +kernel
theorem dL_law_638 : decode cL_law 638 = .ok (.iadd, 1) := by decide +kernel
theorem dL_law_639 : decode cL_law 639 = .ok (.iaload, 1) := by decide +kernel
theorem dL_law_640 : decode cL_law 640 = .ok (.aload_n 0, 1) := by decide +kernel
theorem dL_law_641 : decode cL_law 641 = .ok (.iload 4, 2) := by decide +kernel
theorem dL_law_643 : decode cL_law 643 = .ok (.iconst 2, 1) := by decide +kernel
theorem dL_law_644 : decode cL_law 644 = .ok (.iadd, 1) := by decide +kernel
theorem dL_law_645 : decode cL_law 645 = .ok (.iaload, 1) := by decide +kernel
theorem dL_law_646 : decode cL_law 646 = .ok (.invokevirtual 104, 3) := by decide +kernel
theorem dL_law_649 : decode cL_law 649 = .ok (.istore 6, 2) := by decide +kernel
theorem dL_law_651 : decode cL_law 651 = .ok (.aload_n 2, 1) := by decide +kernel
theorem dL_law_652 : decode cL_law 652 = .ok (.invokevirtual 60, 3) := by decide +kernel
theorem dL_law_655 : decode cL_law 655 = .ok (.iload 5, 2) := by decide +kernel
theorem dL_law_657 : decode cL_law 657 = .ok (.if_icmp .eq 5, 3) := by decide +kernel
theorem dL_law_660 : decode cL_law 660 = .ok (.iconst 0, 1) := by decide +kernel
theorem dL_law_661 : decode cL_law 661 = .ok (.ireturn, 1) := by decide +kernel
theorem dL_law_662 : decode cL_law 662 = .ok (.iload 5, 2) := by decide +kernel
theorem dL_law_664 : decode cL_law 664 = .ok (.ifCond .ne 22, 3) := by decide +kernel
theorem dL_law_667 : decode cL_law 667 = .ok (.aload_n 3, 1) := by decide +kernel
theorem dL_law_668 : decode cL_law 668 = .ok (.iconst 0, 1) := by decide +kernel
theorem dL_law_669 : decode cL_law 669 = .ok (.laload, 1) := by decide +kernel
theorem dL_law_670 : decode cL_law 670 = .ok (.iload 6, 2) := by decide +kernel
theorem dL_law_672 : decode cL_law 672 = .ok (.ifCond .eq 7, 3) := by decide +kernel
theorem dL_law_675 : decode cL_law 675 = .ok (.lconst 1, 1) := by decide +kernel
theorem dL_law_676 : decode cL_law 676 = .ok (.goto 4, 3) := by decide +kernel
theorem dL_law_679 : decode cL_law 679 = .ok (.lconst 0, 1) := by decide +kernel
theorem dL_law_680 : decode cL_law 680 = .ok (.lcmp, 1) := by decide +kernel
theorem dL_law_681 : decode cL_law 681 = .ok (.ifCond .eq 5, 3) := by decide +kernel
theorem dL_law_684 : decode cL_law 684 = .ok (.iconst 0, 1) := by decide +kernel
theorem dL_law_685 : decode cL_law 685 = .ok (.ireturn, 1) := by decide +kernel
theorem dL_law_686 : decode cL_law 686 = .ok (.goto 238, 3) := by decide +kernel
theorem dL_law_689 : decode cL_law 689 = .ok (.aload_n 1, 1) := by decide +kernel
theorem dL_law_690 : decode cL_law 690 = .ok (.aload_n 0, 1) := by decide +kernel
theorem dL_law_691 : decode cL_law 691 = .ok (.iload 4, 2) := by decide +kernel
theorem dL_law_693 : decode cL_law 693 = .ok (.iconst 1, 1) := by decide +kernel
theorem dL_law_694 : decode cL_law 694 = .ok (.iadd, 1) := by decide +kernel
theorem dL_law_695 : decode cL_law 695 = .ok (.iaload, 1) := by decide +kernel
theorem dL_law_696 : decode cL_law 696 = .ok (.aload_n 0, 1) := by decide +kernel
theorem dL_law_697 : decode cL_law 697 = .ok (.iload 4, 2) := by decide +kernel
theorem dL_law_699 : decode cL_law 699 = .ok (.iconst 2, 1) := by decide +kernel
theorem dL_law_700 : decode cL_law 700 = .ok (.iadd, 1) := by decide +kernel
theorem dL_law_701 : decode cL_law 701 = .ok (.iaload, 1) := by decide +kernel
theorem dL_law_702 : decode cL_law 702 = .ok (.aload_n 0, 1) := by decide +kernel
theorem dL_law_703 : decode cL_law 703 = .ok (.iload 4, 2) := by decide +kernel
theorem dL_law_705 : decode cL_law 705 = .ok (.iconst 3, 1) := by decide +kernel
theorem dL_law_706 : decode cL_law 706 = .ok (.iadd, 1) := by decide +kernel
theorem dL_law_707 : decode cL_law 707 = .ok (.iaload, 1) := by decide +kernel
theorem dL_law_708 : decode cL_law 708 = .ok (.aload_n 0, 1) := by decide +kernel
theorem dL_law_709 : decode cL_law 709 = .ok (.iload 4, 2) := by decide +kernel
theorem dL_law_711 : decode cL_law 711 = .ok (.iconst 4, 1) := by decide +kernel
theorem dL_law_712 : decode cL_law 712 = .ok (.iadd, 1) := by decide +kernel
theorem dL_law_713 : decode cL_law 713 = .ok (.iaload, 1) := by decide +kernel
theorem dL_law_714 : decode cL_law 714 = .ok (.aload_n 0, 1) := by decide +kernel
theorem dL_law_715 : decode cL_law 715 = .ok (.iload 4, 2) := by decide +kernel
theorem dL_law_717 : decode cL_law 717 = .ok (.iconst 5, 1) := by decide +kernel
theorem dL_law_718 : decode cL_law 718 = .ok (.iadd, 1) := by decide +kernel
theorem dL_law_719 : decode cL_law 719 = .ok (.iaload, 1) := by decide +kernel
theorem dL_law_720 : decode cL_law 720 = .ok (.ifCond .eq 7, 3) := by decide +kernel
theorem dL_law_723 : decode cL_law 723 = .ok (.iconst 1, 1) := by decide +kernel
theorem dL_law_724 : decode cL_law 724 = .ok (.goto 4, 3) := by decide +kernel
theorem dL_law_727 : decode cL_law 727 = .ok (.iconst 0, 1) := by decide +kernel
theorem dL_law_728 : decode cL_law 728 = .ok (.aload_n 3, 1) := by decide +kernel
theorem dL_law_729 : decode cL_law 729 = .ok (.invokestatic 105, 3) := by decide +kernel
theorem dL_law_732 : decode cL_law 732 = .ok (.istore 5, 2) := by decide +kernel
theorem dL_law_734 : decode cL_law 734 = .ok (.aload_n 2, 1) := by decide +kernel
theorem dL_law_735 : decode cL_law 735 = .ok (.aload_n 0, 1) := by decide +kernel
theorem dL_law_736 : decode cL_law 736 = .ok (.iload 4, 2) := by decide +kernel
theorem dL_law_738 : decode cL_law 738 = .ok (.iconst 1, 1) := by decide +kernel
theorem dL_law_739 : decode cL_law 739 = .ok (.iadd, 1) := by decide +kernel
theorem dL_law_740 : decode cL_law 740 = .ok (.iaload, 1) := by decide +kernel
theorem dL_law_741 : decode cL_law 741 = .ok (.aload_n 0, 1) := by decide +kernel
theorem dL_law_742 : decode cL_law 742 = .ok (.iload 4, 2) := by decide +kernel
theorem dL_law_744 : decode cL_law 744 = .ok (.iconst 2, 1) := by decide +kernel
theorem dL_law_745 : decode cL_law 745 = .ok (.iadd, 1) := by decide +kernel
theorem dL_law_746 : decode cL_law 746 = .ok (.iaload, 1) := by decide +kernel
theorem dL_law_747 : decode cL_law 747 = .ok (.aload_n 0, 1) := by decide +kernel
theorem dL_law_748 : decode cL_law 748 = .ok (.iload 4, 2) := by decide +kernel
theorem dL_law_750 : decode cL_law 750 = .ok (.iconst 3, 1) := by decide +kernel
theorem dL_law_751 : decode cL_law 751 = .ok (.iadd, 1) := by decide +kernel
theorem dL_law_752 : decode cL_law 752 = .ok (.iaload, 1) := by decide +kernel
theorem dL_law_753 : decode cL_law 753 = .ok (.aload_n 0, 1) := by decide +kernel
theorem dL_law_754 : decode cL_law 754 = .ok (.iload 4, 2) := by decide +kernel
theorem dL_law_756 : decode cL_law 756 = .ok (.iconst 4, 1) := by decide +kernel
theorem dL_law_757 : decode cL_law 757 = .ok (.iadd, 1) := by decide +kernel
theorem dL_law_758 : decode cL_law 758 = .ok (.iaload, 1) := by decide +kernel
theorem dL_law_759 : decode cL_law 759 = .ok (.aload_n 0, 1) := by decide +kernel
theorem dL_law_760 : decode cL_law 760 = .ok (.iload 4, 2) := by decide +kernel
theorem dL_law_762 : decode cL_law 762 = .ok (.iconst 5, 1) := by decide +kernel
theorem dL_law_763 : decode cL_law 763 = .ok (.iadd, 1) := by decide +kernel
theorem dL_law_764 : decode cL_law 764 = .ok (.iaload, 1) := by decide +kernel
theorem dL_law_765 : decode cL_law 765 = .ok (.ifCond .eq 7, 3) := by decide +kernel
theorem dL_law_768 : decode cL_law 768 = .ok (.iconst 1, 1) := by decide +kernel
theorem dL_law_769 : decode cL_law 769 = .ok (.goto 4, 3) := by decide +kernel
theorem dL_law_772 : decode cL_law 772 = .ok (.iconst 0, 1) := by decide +kernel
theorem dL_law_773 : decode cL_law 773 = .ok (.invokevirtual 108, 3) := by decide +kernel
theorem dL_law_776 : decode cL_law 776 = .ok (.lstore 6, 2) := by decide +kernel
theorem dL_law_778 : decode cL_law 778 = .ok (.aload_n 2, 1) := by decide +kernel
theorem dL_law_779 : decode cL_law 779 = .ok (.invokevirtual 60, 3) := by decide +kernel
theorem dL_law_782 : decode cL_law 782 = .ok (.iload 5, 2) := by decide +kernel
theorem dL_law_784 : decode cL_law 784 = .ok (.if_icmp .eq 5, 3) := by decide +kernel
theorem dL_law_787 : decode cL_law 787 = .ok (.iconst 0, 1) := by decide +kernel
theorem dL_law_788 : decode cL_law 788 = .ok (.ireturn, 1) := by decide +kernel
theorem dL_law_789 : decode cL_law 789 = .ok (.iload 5, 2) := by decide +kernel
theorem dL_law_791 : decode cL_law 791 = .ok (.ifCond .ne 14, 3) := by decide +kernel
theorem dL_law_794 : decode cL_law 794 = .ok (.aload_n 3, 1) := by decide +kernel
theorem dL_law_795 : decode cL_law 795 = .ok (.iconst 0, 1) := by decide +kernel
theorem dL_law_796 : decode cL_law 796 = .ok (.laload, 1) := by decide +kernel
theorem dL_law_797 : decode cL_law 797 = .ok (.lload 6, 2) := by decide +kernel
theorem dL_law_799 : decode cL_law 799 = .ok (.lcmp, 1) := by decide +kernel
theorem dL_law_800 : decode cL_law 800 = .ok (.ifCond .eq 5, 3) := by decide +kernel
theorem dL_law_803 : decode cL_law 803 = .ok (.iconst 0, 1) := by decide +kernel
theorem dL_law_804 : decode cL_law 804 = .ok (.ireturn, 1) := by decide +kernel
theorem dL_law_805 : decode cL_law 805 = .ok (.goto 119, 3) := by decide +kernel
theorem dL_law_808 : decode cL_law 808 = .ok (.aload_n 1, 1) := by decide +kernel
theorem dL_law_809 : decode cL_law 809 = .ok (.aload_n 0, 1) := by decide +kernel
theorem dL_law_810 : decode cL_law 810 = .ok (.iload 4, 2) := by decide +kernel
theorem dL_law_812 : decode cL_law 812 = .ok (.iconst 1, 1) := by decide +kernel
theorem dL_law_813 : decode cL_law 813 = .ok (.iadd, 1) := by decide +kernel
theorem dL_law_814 : decode cL_law 814 = .ok (.iaload, 1) := by decide +kernel
theorem dL_law_815 : decode cL_law 815 = .ok (.aload_n 0, 1) := by decide +kernel
theorem dL_law_816 : decode cL_law 816 = .ok (.iload 4, 2) := by decide +kernel
theorem dL_law_818 : decode cL_law 818 = .ok (.iconst 2, 1) := by decide +kernel
theorem dL_law_819 : decode cL_law 819 = .ok (.iadd, 1) := by decide +kernel
theorem dL_law_820 : decode cL_law 820 = .ok (.iaload, 1) := by decide +kernel
theorem dL_law_821 : decode cL_law 821 = .ok (.aload_n 0, 1) := by decide +kernel
theorem dL_law_822 : decode cL_law 822 = .ok (.iload 4, 2) := by decide +kernel
theorem dL_law_824 : decode cL_law 824 = .ok (.iconst 3, 1) := by decide +kernel
theorem dL_law_825 : decode cL_law 825 = .ok (.iadd, 1) := by decide +kernel
theorem dL_law_826 : decode cL_law 826 = .ok (.iaload, 1) := by decide +kernel
theorem dL_law_827 : decode cL_law 827 = .ok (.aload_n 3, 1) := by decide +kernel
theorem dL_law_828 : decode cL_law 828 = .ok (.invokestatic 109, 3) := by decide +kernel
theorem dL_law_831 : decode cL_law 831 = .ok (.istore 5, 2) := by decide +kernel
theorem dL_law_833 : decode cL_law 833 = .ok (.aload_n 2, 1) := by decide +kernel
theorem dL_law_834 : decode cL_law 834 = .ok (.aload_n 0, 1) := by decide +kernel
theorem dL_law_835 : decode cL_law 835 = .ok (.iload 4, 2) := by decide +kernel
theorem dL_law_837 : decode cL_law 837 = .ok (.iconst 1, 1) := by decide +kernel
theorem dL_law_838 : decode cL_law 838 = .ok (.iadd, 1) := by decide +kernel
theorem dL_law_839 : decode cL_law 839 = .ok (.iaload, 1) := by decide +kernel
theorem dL_law_840 : decode cL_law 840 = .ok (.aload_n 0, 1) := by decide +kernel
theorem dL_law_841 : decode cL_law 841 = .ok (.iload 4, 2) := by decide +kernel
theorem dL_law_843 : decode cL_law 843 = .ok (.iconst 2, 1) := by decide +kernel
theorem dL_law_844 : decode cL_law 844 = .ok (.iadd, 1) := by decide +kernel
theorem dL_law_845 : decode cL_law 845 = .ok (.iaload, 1) := by decide +kernel
theorem dL_law_846 : decode cL_law 846 = .ok (.aload_n 0, 1) := by decide +kernel
theorem dL_law_847 : decode cL_law 847 = .ok (.iload 4, 2) := by decide +kernel
theorem dL_law_849 : decode cL_law 849 = .ok (.iconst 3, 1) := by decide +kernel
theorem dL_law_850 : decode cL_law 850 = .ok (.iadd, 1) := by decide +kernel
theorem dL_law_851 : decode cL_law 851 = .ok (.iaload, 1) := by decide +kernel
theorem dL_law_852 : decode cL_law 852 = .ok (.invokevirtual 111, 3) := by decide +kernel
theorem dL_law_855 : decode cL_law 855 = .ok (.istore 6, 2) := by decide +kernel
theorem dL_law_857 : decode cL_law 857 = .ok (.aload_n 2, 1) := by decide +kernel
theorem dL_law_858 : decode cL_law 858 = .ok (.invokevirtual 60, 3) := by decide +kernel
theorem dL_law_861 : decode cL_law 861 = .ok (.iload 5, 2) := by decide +kernel
theorem dL_law_863 : decode cL_law 863 = .ok (.if_icmp .eq 5, 3) := by decide +kernel
theorem dL_law_866 : decode cL_law 866 = .ok (.iconst 0, 1) := by decide +kernel
theorem dL_law_867 : decode cL_law 867 = .ok (.ireturn, 1) := by decide +kernel
theorem dL_law_868 : decode cL_law 868 = .ok (.iload 5, 2) := by decide +kernel
theorem dL_law_870 : decode cL_law 870 = .ok (.ifCond .ne 15, 3) := by decide +kernel
theorem dL_law_873 : decode cL_law 873 = .ok (.aload_n 3, 1) := by decide +kernel
theorem dL_law_874 : decode cL_law 874 = .ok (.iconst 0, 1) := by decide +kernel
theorem dL_law_875 : decode cL_law 875 = .ok (.laload, 1) := by decide +kernel
theorem dL_law_876 : decode cL_law 876 = .ok (.iload 6, 2) := by decide +kernel
theorem dL_law_878 : decode cL_law 878 = .ok (.i2l, 1) := by decide +kernel
theorem dL_law_879 : decode cL_law 879 = .ok (.lcmp, 1) := by decide +kernel
theorem dL_law_880 : decode cL_law 880 = .ok (.ifCond .eq 5, 3) := by decide +kernel
theorem dL_law_883 : decode cL_law 883 = .ok (.iconst 0, 1) := by decide +kernel
theorem dL_law_884 : decode cL_law 884 = .ok (.ireturn, 1) := by decide +kernel
theorem dL_law_885 : decode cL_law 885 = .ok (.goto 39, 3) := by decide +kernel
theorem dL_law_888 : decode cL_law 888 = .ok (.aload_n 1, 1) := by decide +kernel
theorem dL_law_889 : decode cL_law 889 = .ok (.aload_n 0, 1) := by decide +kernel
theorem dL_law_890 : decode cL_law 890 = .ok (.iload 4, 2) := by decide +kernel
theorem dL_law_892 : decode cL_law 892 = .ok (.iconst 1, 1) := by decide +kernel
theorem dL_law_893 : decode cL_law 893 = .ok (.iadd, 1) := by decide +kernel
theorem dL_law_894 : decode cL_law 894 = .ok (.iaload, 1) := by decide +kernel
theorem dL_law_895 : decode cL_law 895 = .ok (.invokevirtual 112, 3) := by decide +kernel
theorem dL_law_898 : decode cL_law 898 = .ok (.aload_n 2, 1) := by decide +kernel
theorem dL_law_899 : decode cL_law 899 = .ok (.aload_n 0, 1) := by decide +kernel
theorem dL_law_900 : decode cL_law 900 = .ok (.iload 4, 2) := by decide +kernel
theorem dL_law_902 : decode cL_law 902 = .ok (.iconst 1, 1) := by decide +kernel
theorem dL_law_903 : decode cL_law 903 = .ok (.iadd, 1) := by decide +kernel
theorem dL_law_904 : decode cL_law 904 = .ok (.iaload, 1) := by decide +kernel
theorem dL_law_905 : decode cL_law 905 = .ok (.invokevirtual 115, 3) := by decide +kernel
theorem dL_law_908 : decode cL_law 908 = .ok (.if_icmp .eq 16, 3) := by decide +kernel
theorem dL_law_911 : decode cL_law 911 = .ok (.iconst 0, 1) := by decide +kernel
theorem dL_law_912 : decode cL_law 912 = .ok (.ireturn, 1) := by decide +kernel
theorem dL_law_913 : decode cL_law 913 = .ok (.aload_n 1, 1) := by decide +kernel
theorem dL_law_914 : decode cL_law 914 = .ok (.invokevirtual 116, 3) := by decide +kernel
theorem dL_law_917 : decode cL_law 917 = .ok (.aload_n 2, 1) := by decide +kernel
theorem dL_law_918 : decode cL_law 918 = .ok (.invokevirtual 119, 3) := by decide +kernel
theorem dL_law_921 : decode cL_law 921 = .ok (.goto 3, 3) := by decide +kernel
theorem dL_law_924 : decode cL_law 924 = .ok (.iinc 4 6, 3) := by decide +kernel
theorem dL_law_927 : decode cL_law 927 = .ok (.goto (-884), 3) := by decide +kernel
theorem dL_law_930 : decode cL_law 930 = .ok (.iconst 1, 1) := by decide +kernel
theorem dL_law_931 : decode cL_law 931 = .ok (.ireturn, 1) := by decide +kernel
end
section
theorem fX0_width : Cond.fieldLink RX0 13 "LocalBounds" (TX0 0).2.1 (TX0 0).2.2.1 ∈ wsL_law := by decide +kernel
theorem fX0_height : Cond.fieldLink RX0 17 "LocalBounds" (TX0 1).2.1 (TX0 1).2.2.1 ∈ wsL_law := by decide +kernel
theorem fX0_count : Cond.fieldLink RX0 20 "LocalBounds" (TX0 2).2.1 (TX0 2).2.2.1 ∈ wsL_law := by decide +kernel
theorem fX0_samples : Cond.fieldLink RX0 23 "LocalBounds" (TX0 3).2.1 (TX0 3).2.2.1 ∈ wsL_law := by decide +kernel
theorem fX0_black : Cond.fieldLink RX0 27 "LocalBounds" (TX0 4).2.1 (TX0 4).2.2.1 ∈ wsL_law := by decide +kernel
theorem fX0_lost : Cond.fieldLink RX0 101 "LocalBounds" (TX0 5).2.1 (TX0 5).2.2.1 ∈ wsL_law := by decide +kernel
theorem fX0_ofGrey : Cond.fieldLink RX0 31 "LocalBounds" (TX0 6).2.1 (TX0 6).2.2.1 ∈ wsL_law := by decide +kernel
theorem fX0_came : Cond.fieldLink RX0 34 "LocalBounds" (TX0 7).2.1 (TX0 7).2.2.1 ∈ wsL_law := by decide +kernel
theorem fX0_sums : Cond.fieldLink RX0 37 "LocalBounds" (TX0 8).2.1 (TX0 8).2.2.1 ∈ wsL_law := by decide +kernel
theorem fX0_squareSums : Cond.fieldLink RX0 41 "LocalBounds" (TX0 9).2.1 (TX0 9).2.2.1 ∈ wsL_law := by decide +kernel
theorem fX0_marked : Cond.fieldLink RX0 44 "LocalBounds" (TX0 10).2.1 (TX0 10).2.2.1 ∈ wsL_law := by decide +kernel
theorem fX0_queue : Cond.fieldLink RX0 47 "LocalBounds" (TX0 11).2.1 (TX0 11).2.2.1 ∈ wsL_law := by decide +kernel
theorem fX0_queued : Cond.fieldLink RX0 121 "LocalBounds" (TX0 12).2.1 (TX0 12).2.2.1 ∈ wsL_law := by decide +kernel
theorem fX1_thrown : Cond.fieldLink RX1 33 "LocalBoundsModel" (TX1 0).2.1 (TX1 0).2.2.1 ∈ wsL_law := by decide +kernel
theorem fX1_width : Cond.fieldLink RX1 26 "LocalBoundsModel" (TX1 1).2.1 (TX1 1).2.2.1 ∈ wsL_law := by decide +kernel
theorem fX1_height : Cond.fieldLink RX1 30 "LocalBoundsModel" (TX1 2).2.1 (TX1 2).2.2.1 ∈ wsL_law := by decide +kernel
theorem fX1_samples : Cond.fieldLink RX1 7 "LocalBoundsModel" (TX1 3).2.1 (TX1 3).2.2.1 ∈ wsL_law := by decide +kernel
theorem fX1_black : Cond.fieldLink RX1 13 "LocalBoundsModel" (TX1 4).2.1 (TX1 4).2.2.1 ∈ wsL_law := by decide +kernel
theorem fX1_next : Cond.fieldLink RX1 17 "LocalBoundsModel" (TX1 5).2.1 (TX1 5).2.2.1 ∈ wsL_law := by decide +kernel
theorem fX1_came : Cond.fieldLink RX1 20 "LocalBoundsModel" (TX1 6).2.1 (TX1 6).2.2.1 ∈ wsL_law := by decide +kernel
theorem fX1_part : Cond.fieldLink RX1 23 "LocalBoundsModel" (TX1 7).2.1 (TX1 7).2.2.1 ∈ wsL_law := by decide +kernel
theorem fX1_rest : Cond.fieldLink RX1 55 "LocalBoundsModel" (TX1 8).2.1 (TX1 8).2.2.1 ∈ wsL_law := by decide +kernel
theorem lkL_X0_at : Cond.methodLink RL 34 yX0_at ∈ wsL_law ∧ Cond.instanceMethod yX0_at ∈ wsL_law ∧ Cond.selects yX0_at.cls yX0_at yX0_at ∈ wsL_law ∧ Cond.initialized yX0_at.cls ∈ wsL_law ∧ Cond.code yX0_at cX0_at 3 (some .boolean) ∈ wsL_law := ⟨by decide +kernel, by decide +kernel, by decide +kernel, by decide +kernel, by decide +kernel⟩
theorem dc_X0_at : yX0_at.cls ≠ "java/lang/invoke/MethodHandle" ∧ yX0_at.cls ≠ "java/lang/invoke/VarHandle" ∧ (parseMethodDescriptor yX0_at.desc).map (fun d => d.parameters.length) = some 2 := by decide +kernel
theorem lkL_X0_cell : Cond.methodLink RL 42 yX0_cell ∈ wsL_law ∧ Cond.instanceMethod yX0_cell ∈ wsL_law ∧ Cond.selects yX0_cell.cls yX0_cell yX0_cell ∈ wsL_law ∧ Cond.initialized yX0_cell.cls ∈ wsL_law ∧ Cond.code yX0_cell cX0_cell 4 (some .int) ∈ wsL_law := ⟨by decide +kernel, by decide +kernel, by decide +kernel, by decide +kernel, by decide +kernel⟩
theorem dc_X0_cell : yX0_cell.cls ≠ "java/lang/invoke/MethodHandle" ∧ yX0_cell.cls ≠ "java/lang/invoke/VarHandle" ∧ (parseMethodDescriptor yX0_cell.desc).map (fun d => d.parameters.length) = some 3 := by decide +kernel
theorem lkL_X0_clean : Cond.methodLink RL 31 yX0_clean ∈ wsL_law ∧ Cond.instanceMethod yX0_clean ∈ wsL_law ∧ Cond.selects yX0_clean.cls yX0_clean yX0_clean ∈ wsL_law ∧ Cond.initialized yX0_clean.cls ∈ wsL_law ∧ Cond.code yX0_clean cX0_clean 4 (some .int) ∈ wsL_law := ⟨by decide +kernel, by decide +kernel, by decide +kernel, by decide +kernel, by decide +kernel⟩
theorem dc_X0_clean : yX0_clean.cls ≠ "java/lang/invoke/MethodHandle" ∧ yX0_clean.cls ≠ "java/lang/invoke/VarHandle" ∧ (parseMethodDescriptor yX0_clean.desc).map (fun d => d.parameters.length) = some 1 := by decide +kernel
theorem lkL_X0_join : Cond.methodLink RL 28 yX0_join ∈ wsL_law ∧ Cond.instanceMethod yX0_join ∈ wsL_law ∧ Cond.selects yX0_join.cls yX0_join yX0_join ∈ wsL_law ∧ Cond.initialized yX0_join.cls ∈ wsL_law ∧ Cond.code yX0_join cX0_join 4 (some .int) ∈ wsL_law := ⟨by decide +kernel, by decide +kernel, by decide +kernel, by decide +kernel, by decide +kernel⟩
theorem dc_X0_join : yX0_join.cls ≠ "java/lang/invoke/MethodHandle" ∧ yX0_join.cls ≠ "java/lang/invoke/VarHandle" ∧ (parseMethodDescriptor yX0_join.desc).map (fun d => d.parameters.length) = some 2 := by decide +kernel
theorem lkL_L_cell : Cond.methodLink RL 45 yL_cell ∈ wsL_law ∧ Cond.static yL_cell ∈ wsL_law ∧ Cond.initialized yL_cell.cls ∈ wsL_law ∧ Cond.code yL_cell cL_cell 2 (some .int) ∈ wsL_law := ⟨by decide +kernel, by decide +kernel, by decide +kernel, by decide +kernel⟩
theorem dc_L_cell : yL_cell.cls ≠ "java/lang/invoke/MethodHandle" ∧ yL_cell.cls ≠ "java/lang/invoke/VarHandle" ∧ (parseMethodDescriptor yL_cell.desc).map (fun d => d.parameters.length) = some 2 := by decide +kernel
theorem lkL_X1_put : Cond.methodLink RL 59 yX1_put ∈ wsL_law ∧ Cond.instanceMethod yX1_put ∈ wsL_law ∧ Cond.selects yX1_put.cls yX1_put yX1_put ∈ wsL_law ∧ Cond.initialized yX1_put.cls ∈ wsL_law ∧ Cond.code yX1_put cX1_put 5 (some .int) ∈ wsL_law := ⟨by decide +kernel, by decide +kernel, by decide +kernel, by decide +kernel, by decide +kernel⟩
theorem dc_X1_put : yX1_put.cls ≠ "java/lang/invoke/MethodHandle" ∧ yX1_put.cls ≠ "java/lang/invoke/VarHandle" ∧ (parseMethodDescriptor yX1_put.desc).map (fun d => d.parameters.length) = some 3 := by decide +kernel
theorem lkL_X1_thrown : Cond.methodLink RL 60 yX1_thrown ∈ wsL_law ∧ Cond.instanceMethod yX1_thrown ∈ wsL_law ∧ Cond.selects yX1_thrown.cls yX1_thrown yX1_thrown ∈ wsL_law ∧ Cond.initialized yX1_thrown.cls ∈ wsL_law ∧ Cond.code yX1_thrown cX1_thrown 1 (some .int) ∈ wsL_law := ⟨by decide +kernel, by decide +kernel, by decide +kernel, by decide +kernel, by decide +kernel⟩
theorem dc_X1_thrown : yX1_thrown.cls ≠ "java/lang/invoke/MethodHandle" ∧ yX1_thrown.cls ≠ "java/lang/invoke/VarHandle" ∧ (parseMethodDescriptor yX1_thrown.desc).map (fun d => d.parameters.length) = some 0 := by decide +kernel
theorem lkL_X0_paint : Cond.methodLink RL 64 yX0_paint ∈ wsL_law ∧ Cond.instanceMethod yX0_paint ∈ wsL_law ∧ Cond.selects yX0_paint.cls yX0_paint yX0_paint ∈ wsL_law ∧ Cond.initialized yX0_paint.cls ∈ wsL_law ∧ Cond.code yX0_paint cX0_paint 7 (some .int) ∈ wsL_law := ⟨by decide +kernel, by decide +kernel, by decide +kernel, by decide +kernel, by decide +kernel⟩
theorem dc_X0_paint : yX0_paint.cls ≠ "java/lang/invoke/MethodHandle" ∧ yX0_paint.cls ≠ "java/lang/invoke/VarHandle" ∧ (parseMethodDescriptor yX0_paint.desc).map (fun d => d.parameters.length) = some 2 := by decide +kernel
theorem lkL_X1_paint : Cond.methodLink RL 67 yX1_paint ∈ wsL_law ∧ Cond.instanceMethod yX1_paint ∈ wsL_law ∧ Cond.selects yX1_paint.cls yX1_paint yX1_paint ∈ wsL_law ∧ Cond.initialized yX1_paint.cls ∈ wsL_law ∧ Cond.code yX1_paint cX1_paint 6 (some .int) ∈ wsL_law := ⟨by decide +kernel, by decide +kernel, by decide +kernel, by decide +kernel, by decide +kernel⟩
theorem dc_X1_paint : yX1_paint.cls ≠ "java/lang/invoke/MethodHandle" ∧ yX1_paint.cls ≠ "java/lang/invoke/VarHandle" ∧ (parseMethodDescriptor yX1_paint.desc).map (fun d => d.parameters.length) = some 2 := by decide +kernel
theorem lkL_X0_global : Cond.methodLink RL 68 yX0_global ∈ wsL_law ∧ Cond.instanceMethod yX0_global ∈ wsL_law ∧ Cond.selects yX0_global.cls yX0_global yX0_global ∈ wsL_law ∧ Cond.initialized yX0_global.cls ∈ wsL_law ∧ Cond.code yX0_global cX0_global 3 (some .int) ∈ wsL_law := ⟨by decide +kernel, by decide +kernel, by decide +kernel, by decide +kernel, by decide +kernel⟩
theorem dc_X0_global : yX0_global.cls ≠ "java/lang/invoke/MethodHandle" ∧ yX0_global.cls ≠ "java/lang/invoke/VarHandle" ∧ (parseMethodDescriptor yX0_global.desc).map (fun d => d.parameters.length) = some 0 := by decide +kernel
theorem lkL_X1_global : Cond.methodLink RL 71 yX1_global ∈ wsL_law ∧ Cond.instanceMethod yX1_global ∈ wsL_law ∧ Cond.selects yX1_global.cls yX1_global yX1_global ∈ wsL_law ∧ Cond.initialized yX1_global.cls ∈ wsL_law ∧ Cond.code yX1_global cX1_global 17 (some .int) ∈ wsL_law := ⟨by decide +kernel, by decide +kernel, by decide +kernel, by decide +kernel, by decide +kernel⟩
theorem dc_X1_global : yX1_global.cls ≠ "java/lang/invoke/MethodHandle" ∧ yX1_global.cls ≠ "java/lang/invoke/VarHandle" ∧ (parseMethodDescriptor yX1_global.desc).map (fun d => d.parameters.length) = some 0 := by decide +kernel
theorem lkL_X1_local : Cond.methodLink RL 75 yX1_local ∈ wsL_law ∧ Cond.instanceMethod yX1_local ∈ wsL_law ∧ Cond.selects yX1_local.cls yX1_local yX1_local ∈ wsL_law ∧ Cond.initialized yX1_local.cls ∈ wsL_law ∧ Cond.code yX1_local cX1_local 5 (some .int) ∈ wsL_law := ⟨by decide +kernel, by decide +kernel, by decide +kernel, by decide +kernel, by decide +kernel⟩
theorem dc_X1_local : yX1_local.cls ≠ "java/lang/invoke/MethodHandle" ∧ yX1_local.cls ≠ "java/lang/invoke/VarHandle" ∧ (parseMethodDescriptor yX1_local.desc).map (fun d => d.parameters.length) = some 2 := by decide +kernel
theorem lkL_X1_spread : Cond.methodLink RL 79 yX1_spread ∈ wsL_law ∧ Cond.instanceMethod yX1_spread ∈ wsL_law ∧ Cond.selects yX1_spread.cls yX1_spread yX1_spread ∈ wsL_law ∧ Cond.initialized yX1_spread.cls ∈ wsL_law ∧ Cond.code yX1_spread cX1_spread 11 (some .int) ∈ wsL_law := ⟨by decide +kernel, by decide +kernel, by decide +kernel, by decide +kernel, by decide +kernel⟩
theorem dc_X1_spread : yX1_spread.cls ≠ "java/lang/invoke/MethodHandle" ∧ yX1_spread.cls ≠ "java/lang/invoke/VarHandle" ∧ (parseMethodDescriptor yX1_spread.desc).map (fun d => d.parameters.length) = some 1 := by decide +kernel
theorem lkL_X0_rest : Cond.methodLink RL 80 yX0_rest ∈ wsL_law ∧ Cond.instanceMethod yX0_rest ∈ wsL_law ∧ Cond.selects yX0_rest.cls yX0_rest yX0_rest ∈ wsL_law ∧ Cond.initialized yX0_rest.cls ∈ wsL_law ∧ Cond.code yX0_rest cX0_rest 1 (some .long) ∈ wsL_law := ⟨by decide +kernel, by decide +kernel, by decide +kernel, by decide +kernel, by decide +kernel⟩
theorem dc_X0_rest : yX0_rest.cls ≠ "java/lang/invoke/MethodHandle" ∧ yX0_rest.cls ≠ "java/lang/invoke/VarHandle" ∧ (parseMethodDescriptor yX0_rest.desc).map (fun d => d.parameters.length) = some 0 := by decide +kernel
theorem lkL_X1_rest : Cond.methodLink RL 84 yX1_rest ∈ wsL_law ∧ Cond.instanceMethod yX1_rest ∈ wsL_law ∧ Cond.selects yX1_rest.cls yX1_rest yX1_rest ∈ wsL_law ∧ Cond.initialized yX1_rest.cls ∈ wsL_law ∧ Cond.code yX1_rest cX1_rest 1 (some .long) ∈ wsL_law := ⟨by decide +kernel, by decide +kernel, by decide +kernel, by decide +kernel, by decide +kernel⟩
theorem dc_X1_rest : yX1_rest.cls ≠ "java/lang/invoke/MethodHandle" ∧ yX1_rest.cls ≠ "java/lang/invoke/VarHandle" ∧ (parseMethodDescriptor yX1_rest.desc).map (fun d => d.parameters.length) = some 0 := by decide +kernel
theorem lkL_X1_ordered : Cond.methodLink RL 87 yX1_ordered ∈ wsL_law ∧ Cond.instanceMethod yX1_ordered ∈ wsL_law ∧ Cond.selects yX1_ordered.cls yX1_ordered yX1_ordered ∈ wsL_law ∧ Cond.initialized yX1_ordered.cls ∈ wsL_law ∧ Cond.code yX1_ordered cX1_ordered 4 (some .int) ∈ wsL_law := ⟨by decide +kernel, by decide +kernel, by decide +kernel, by decide +kernel, by decide +kernel⟩
theorem dc_X1_ordered : yX1_ordered.cls ≠ "java/lang/invoke/MethodHandle" ∧ yX1_ordered.cls ≠ "java/lang/invoke/VarHandle" ∧ (parseMethodDescriptor yX1_ordered.desc).map (fun d => d.parameters.length) = some 1 := by decide +kernel
theorem lkL_X1_join : Cond.methodLink RL 90 yX1_join ∈ wsL_law ∧ Cond.instanceMethod yX1_join ∈ wsL_law ∧ Cond.selects yX1_join.cls yX1_join yX1_join ∈ wsL_law ∧ Cond.initialized yX1_join.cls ∈ wsL_law ∧ Cond.code yX1_join cX1_join 6 (some .int) ∈ wsL_law := ⟨by decide +kernel, by decide +kernel, by decide +kernel, by decide +kernel, by decide +kernel⟩
theorem dc_X1_join : yX1_join.cls ≠ "java/lang/invoke/MethodHandle" ∧ yX1_join.cls ≠ "java/lang/invoke/VarHandle" ∧ (parseMethodDescriptor yX1_join.desc).map (fun d => d.parameters.length) = some 2 := by decide +kernel
theorem lkL_X1_clean : Cond.methodLink RL 93 yX1_clean ∈ wsL_law ∧ Cond.instanceMethod yX1_clean ∈ wsL_law ∧ Cond.selects yX1_clean.cls yX1_clean yX1_clean ∈ wsL_law ∧ Cond.initialized yX1_clean.cls ∈ wsL_law ∧ Cond.code yX1_clean cX1_clean 3 (some .int) ∈ wsL_law := ⟨by decide +kernel, by decide +kernel, by decide +kernel, by decide +kernel, by decide +kernel⟩
theorem dc_X1_clean : yX1_clean.cls ≠ "java/lang/invoke/MethodHandle" ∧ yX1_clean.cls ≠ "java/lang/invoke/VarHandle" ∧ (parseMethodDescriptor yX1_clean.desc).map (fun d => d.parameters.length) = some 1 := by decide +kernel
theorem lkL_X0_edges : Cond.methodLink RL 94 yX0_edges ∈ wsL_law ∧ Cond.instanceMethod yX0_edges ∈ wsL_law ∧ Cond.selects yX0_edges.cls yX0_edges yX0_edges ∈ wsL_law ∧ Cond.initialized yX0_edges.cls ∈ wsL_law ∧ Cond.code yX0_edges cX0_edges 3 (some .int) ∈ wsL_law := ⟨by decide +kernel, by decide +kernel, by decide +kernel, by decide +kernel, by decide +kernel⟩
theorem dc_X0_edges : yX0_edges.cls ≠ "java/lang/invoke/MethodHandle" ∧ yX0_edges.cls ≠ "java/lang/invoke/VarHandle" ∧ (parseMethodDescriptor yX0_edges.desc).map (fun d => d.parameters.length) = some 0 := by decide +kernel
theorem lkL_X1_edges : Cond.methodLink RL 97 yX1_edges ∈ wsL_law ∧ Cond.instanceMethod yX1_edges ∈ wsL_law ∧ Cond.selects yX1_edges.cls yX1_edges yX1_edges ∈ wsL_law ∧ Cond.initialized yX1_edges.cls ∈ wsL_law ∧ Cond.code yX1_edges cX1_edges 5 (some .int) ∈ wsL_law := ⟨by decide +kernel, by decide +kernel, by decide +kernel, by decide +kernel, by decide +kernel⟩
theorem dc_X1_edges : yX1_edges.cls ≠ "java/lang/invoke/MethodHandle" ∧ yX1_edges.cls ≠ "java/lang/invoke/VarHandle" ∧ (parseMethodDescriptor yX1_edges.desc).map (fun d => d.parameters.length) = some 0 := by decide +kernel
theorem lkL_X0_invert : Cond.methodLink RL 98 yX0_invert ∈ wsL_law ∧ Cond.instanceMethod yX0_invert ∈ wsL_law ∧ Cond.selects yX0_invert.cls yX0_invert yX0_invert ∈ wsL_law ∧ Cond.initialized yX0_invert.cls ∈ wsL_law ∧ Cond.code yX0_invert cX0_invert 2 (some .int) ∈ wsL_law := ⟨by decide +kernel, by decide +kernel, by decide +kernel, by decide +kernel, by decide +kernel⟩
theorem dc_X0_invert : yX0_invert.cls ≠ "java/lang/invoke/MethodHandle" ∧ yX0_invert.cls ≠ "java/lang/invoke/VarHandle" ∧ (parseMethodDescriptor yX0_invert.desc).map (fun d => d.parameters.length) = some 0 := by decide +kernel
theorem lkL_X1_invert : Cond.methodLink RL 101 yX1_invert ∈ wsL_law ∧ Cond.instanceMethod yX1_invert ∈ wsL_law ∧ Cond.selects yX1_invert.cls yX1_invert yX1_invert ∈ wsL_law ∧ Cond.initialized yX1_invert.cls ∈ wsL_law ∧ Cond.code yX1_invert cX1_invert 2 (some .int) ∈ wsL_law := ⟨by decide +kernel, by decide +kernel, by decide +kernel, by decide +kernel, by decide +kernel⟩
theorem dc_X1_invert : yX1_invert.cls ≠ "java/lang/invoke/MethodHandle" ∧ yX1_invert.cls ≠ "java/lang/invoke/VarHandle" ∧ (parseMethodDescriptor yX1_invert.desc).map (fun d => d.parameters.length) = some 0 := by decide +kernel
theorem lkL_X1_at : Cond.methodLink RL 104 yX1_at ∈ wsL_law ∧ Cond.instanceMethod yX1_at ∈ wsL_law ∧ Cond.selects yX1_at.cls yX1_at yX1_at ∈ wsL_law ∧ Cond.initialized yX1_at.cls ∈ wsL_law ∧ Cond.code yX1_at cX1_at 3 (some .boolean) ∈ wsL_law := ⟨by decide +kernel, by decide +kernel, by decide +kernel, by decide +kernel, by decide +kernel⟩
theorem dc_X1_at : yX1_at.cls ≠ "java/lang/invoke/MethodHandle" ∧ yX1_at.cls ≠ "java/lang/invoke/VarHandle" ∧ (parseMethodDescriptor yX1_at.desc).map (fun d => d.parameters.length) = some 2 := by decide +kernel
theorem lkL_X1_sum : Cond.methodLink RL 108 yX1_sum ∈ wsL_law ∧ Cond.instanceMethod yX1_sum ∈ wsL_law ∧ Cond.selects yX1_sum.cls yX1_sum yX1_sum ∈ wsL_law ∧ Cond.initialized yX1_sum.cls ∈ wsL_law ∧ Cond.code yX1_sum cX1_sum 13 (some .long) ∈ wsL_law := ⟨by decide +kernel, by decide +kernel, by decide +kernel, by decide +kernel, by decide +kernel⟩
theorem dc_X1_sum : yX1_sum.cls ≠ "java/lang/invoke/MethodHandle" ∧ yX1_sum.cls ≠ "java/lang/invoke/VarHandle" ∧ (parseMethodDescriptor yX1_sum.desc).map (fun d => d.parameters.length) = some 5 := by decide +kernel
theorem lkL_X1_cell : Cond.methodLink RL 111 yX1_cell ∈ wsL_law ∧ Cond.instanceMethod yX1_cell ∈ wsL_law ∧ Cond.selects yX1_cell.cls yX1_cell yX1_cell ∈ wsL_law ∧ Cond.initialized yX1_cell.cls ∈ wsL_law ∧ Cond.code yX1_cell cX1_cell 4 (some .int) ∈ wsL_law := ⟨by decide +kernel, by decide +kernel, by decide +kernel, by decide +kernel, by decide +kernel⟩
theorem dc_X1_cell : yX1_cell.cls ≠ "java/lang/invoke/MethodHandle" ∧ yX1_cell.cls ≠ "java/lang/invoke/VarHandle" ∧ (parseMethodDescriptor yX1_cell.desc).map (fun d => d.parameters.length) = some 3 := by decide +kernel
theorem lkL_X0_told : Cond.methodLink RL 112 yX0_told ∈ wsL_law ∧ Cond.instanceMethod yX0_told ∈ wsL_law ∧ Cond.selects yX0_told.cls yX0_told yX0_told ∈ wsL_law ∧ Cond.initialized yX0_told.cls ∈ wsL_law ∧ Cond.code yX0_told cX0_told 2 (some .int) ∈ wsL_law := ⟨by decide +kernel, by decide +kernel, by decide +kernel, by decide +kernel, by decide +kernel⟩
theorem dc_X0_told : yX0_told.cls ≠ "java/lang/invoke/MethodHandle" ∧ yX0_told.cls ≠ "java/lang/invoke/VarHandle" ∧ (parseMethodDescriptor yX0_told.desc).map (fun d => d.parameters.length) = some 1 := by decide +kernel
theorem lkL_X1_told : Cond.methodLink RL 115 yX1_told ∈ wsL_law ∧ Cond.instanceMethod yX1_told ∈ wsL_law ∧ Cond.selects yX1_told.cls yX1_told yX1_told ∈ wsL_law ∧ Cond.initialized yX1_told.cls ∈ wsL_law ∧ Cond.code yX1_told cX1_told 2 (some .int) ∈ wsL_law := ⟨by decide +kernel, by decide +kernel, by decide +kernel, by decide +kernel, by decide +kernel⟩
theorem dc_X1_told : yX1_told.cls ≠ "java/lang/invoke/MethodHandle" ∧ yX1_told.cls ≠ "java/lang/invoke/VarHandle" ∧ (parseMethodDescriptor yX1_told.desc).map (fun d => d.parameters.length) = some 1 := by decide +kernel
theorem lkL_X0_clear : Cond.methodLink RL 116 yX0_clear ∈ wsL_law ∧ Cond.instanceMethod yX0_clear ∈ wsL_law ∧ Cond.selects yX0_clear.cls yX0_clear yX0_clear ∈ wsL_law ∧ Cond.initialized yX0_clear.cls ∈ wsL_law ∧ Cond.code yX0_clear cX0_clear 2 none ∈ wsL_law := ⟨by decide +kernel, by decide +kernel, by decide +kernel, by decide +kernel, by decide +kernel⟩
theorem dc_X0_clear : yX0_clear.cls ≠ "java/lang/invoke/MethodHandle" ∧ yX0_clear.cls ≠ "java/lang/invoke/VarHandle" ∧ (parseMethodDescriptor yX0_clear.desc).map (fun d => d.parameters.length) = some 0 := by decide +kernel
theorem lkL_X1_clear : Cond.methodLink RL 119 yX1_clear ∈ wsL_law ∧ Cond.instanceMethod yX1_clear ∈ wsL_law ∧ Cond.selects yX1_clear.cls yX1_clear yX1_clear ∈ wsL_law ∧ Cond.initialized yX1_clear.cls ∈ wsL_law ∧ Cond.code yX1_clear cX1_clear 2 none ∈ wsL_law := ⟨by decide +kernel, by decide +kernel, by decide +kernel, by decide +kernel, by decide +kernel⟩
theorem dc_X1_clear : yX1_clear.cls ≠ "java/lang/invoke/MethodHandle" ∧ yX1_clear.cls ≠ "java/lang/invoke/VarHandle" ∧ (parseMethodDescriptor yX1_clear.desc).map (fun d => d.parameters.length) = some 0 := by decide +kernel
theorem lkL_X0_local : Cond.methodLink RL 17 yX0_local ∈ wsL_law ∧ Cond.instanceMethod yX0_local ∈ wsL_law ∧ Cond.selects yX0_local.cls yX0_local yX0_local ∈ wsL_law ∧ Cond.initialized yX0_local.cls ∈ wsL_law ∧ Cond.code yX0_local cX0_local 6 (some .int) ∈ wsL_law := ⟨by decide +kernel, by decide +kernel, by decide +kernel, by decide +kernel, by decide +kernel⟩
theorem dc_X0_local : yX0_local.cls ≠ "java/lang/invoke/MethodHandle" ∧ yX0_local.cls ≠ "java/lang/invoke/VarHandle" ∧ (parseMethodDescriptor yX0_local.desc).map (fun d => d.parameters.length) = some 2 := by decide +kernel
theorem lkL_X0_ordered : Cond.methodLink RL 25 yX0_ordered ∈ wsL_law ∧ Cond.instanceMethod yX0_ordered ∈ wsL_law ∧ Cond.selects yX0_ordered.cls yX0_ordered yX0_ordered ∈ wsL_law ∧ Cond.initialized yX0_ordered.cls ∈ wsL_law ∧ Cond.code yX0_ordered cX0_ordered 6 (some .int) ∈ wsL_law := ⟨by decide +kernel, by decide +kernel, by decide +kernel, by decide +kernel, by decide +kernel⟩
theorem dc_X0_ordered : yX0_ordered.cls ≠ "java/lang/invoke/MethodHandle" ∧ yX0_ordered.cls ≠ "java/lang/invoke/VarHandle" ∧ (parseMethodDescriptor yX0_ordered.desc).map (fun d => d.parameters.length) = some 1 := by decide +kernel
theorem lkL_X0_put : Cond.methodLink RL 7 yX0_put ∈ wsL_law ∧ Cond.instanceMethod yX0_put ∈ wsL_law ∧ Cond.selects yX0_put.cls yX0_put yX0_put ∈ wsL_law ∧ Cond.initialized yX0_put.cls ∈ wsL_law ∧ Cond.code yX0_put cX0_put 6 (some .int) ∈ wsL_law := ⟨by decide +kernel, by decide +kernel, by decide +kernel, by decide +kernel, by decide +kernel⟩
theorem dc_X0_put : yX0_put.cls ≠ "java/lang/invoke/MethodHandle" ∧ yX0_put.cls ≠ "java/lang/invoke/VarHandle" ∧ (parseMethodDescriptor yX0_put.desc).map (fun d => d.parameters.length) = some 3 := by decide +kernel
theorem lkL_X0_spread : Cond.methodLink RL 21 yX0_spread ∈ wsL_law ∧ Cond.instanceMethod yX0_spread ∈ wsL_law ∧ Cond.selects yX0_spread.cls yX0_spread yX0_spread ∈ wsL_law ∧ Cond.initialized yX0_spread.cls ∈ wsL_law ∧ Cond.code yX0_spread cX0_spread 3 (some .int) ∈ wsL_law := ⟨by decide +kernel, by decide +kernel, by decide +kernel, by decide +kernel, by decide +kernel⟩
theorem dc_X0_spread : yX0_spread.cls ≠ "java/lang/invoke/MethodHandle" ∧ yX0_spread.cls ≠ "java/lang/invoke/VarHandle" ∧ (parseMethodDescriptor yX0_spread.desc).map (fun d => d.parameters.length) = some 1 := by decide +kernel
theorem lkL_X0_sum : Cond.methodLink RL 38 yX0_sum ∈ wsL_law ∧ Cond.instanceMethod yX0_sum ∈ wsL_law ∧ Cond.selects yX0_sum.cls yX0_sum yX0_sum ∈ wsL_law ∧ Cond.initialized yX0_sum.cls ∈ wsL_law ∧ Cond.code yX0_sum cX0_sum 6 (some .long) ∈ wsL_law := ⟨by decide +kernel, by decide +kernel, by decide +kernel, by decide +kernel, by decide +kernel⟩
theorem dc_X0_sum : yX0_sum.cls ≠ "java/lang/invoke/MethodHandle" ∧ yX0_sum.cls ≠ "java/lang/invoke/VarHandle" ∧ (parseMethodDescriptor yX0_sum.desc).map (fun d => d.parameters.length) = some 5 := by decide +kernel
theorem lkX0_X0_isInside : Cond.methodLink RX0 50 yX0_isInside ∈ wsL_law ∧ Cond.instanceMethod yX0_isInside ∈ wsL_law ∧ Cond.selects yX0_isInside.cls yX0_isInside yX0_isInside ∈ wsL_law ∧ Cond.initialized yX0_isInside.cls ∈ wsL_law ∧ Cond.code yX0_isInside cX0_isInside 3 (some .boolean) ∈ wsL_law := ⟨by decide +kernel, by decide +kernel, by decide +kernel, by decide +kernel, by decide +kernel⟩
theorem dc_X0_isInside : yX0_isInside.cls ≠ "java/lang/invoke/MethodHandle" ∧ yX0_isInside.cls ≠ "java/lang/invoke/VarHandle" ∧ (parseMethodDescriptor yX0_isInside.desc).map (fun d => d.parameters.length) = some 2 := by decide +kernel
theorem lkX0_X0_placeOf : Cond.methodLink RX0 66 yX0_placeOf ∈ wsL_law ∧ Cond.instanceMethod yX0_placeOf ∈ wsL_law ∧ Cond.selects yX0_placeOf.cls yX0_placeOf yX0_placeOf ∈ wsL_law ∧ Cond.initialized yX0_placeOf.cls ∈ wsL_law ∧ Cond.code yX0_placeOf cX0_placeOf 3 (some .int) ∈ wsL_law := ⟨by decide +kernel, by decide +kernel, by decide +kernel, by decide +kernel, by decide +kernel⟩
theorem dc_X0_placeOf : yX0_placeOf.cls ≠ "java/lang/invoke/MethodHandle" ∧ yX0_placeOf.cls ≠ "java/lang/invoke/VarHandle" ∧ (parseMethodDescriptor yX0_placeOf.desc).map (fun d => d.parameters.length) = some 2 := by decide +kernel
theorem lkX0_X0_fillOfGrey : Cond.methodLink RX0 171 yX0_fillOfGrey ∈ wsL_law ∧ Cond.instanceMethod yX0_fillOfGrey ∈ wsL_law ∧ Cond.selects yX0_fillOfGrey.cls yX0_fillOfGrey yX0_fillOfGrey ∈ wsL_law ∧ Cond.initialized yX0_fillOfGrey.cls ∈ wsL_law ∧ Cond.code yX0_fillOfGrey cX0_fillOfGrey 3 none ∈ wsL_law := ⟨by decide +kernel, by decide +kernel, by decide +kernel, by decide +kernel, by decide +kernel⟩
theorem dc_X0_fillOfGrey : yX0_fillOfGrey.cls ≠ "java/lang/invoke/MethodHandle" ∧ yX0_fillOfGrey.cls ≠ "java/lang/invoke/VarHandle" ∧ (parseMethodDescriptor yX0_fillOfGrey.desc).map (fun d => d.parameters.length) = some 0 := by decide +kernel
theorem lkX0_X0_sumOfSamples : Cond.methodLink RX0 174 yX0_sumOfSamples ∈ wsL_law ∧ Cond.instanceMethod yX0_sumOfSamples ∈ wsL_law ∧ Cond.selects yX0_sumOfSamples.cls yX0_sumOfSamples yX0_sumOfSamples ∈ wsL_law ∧ Cond.initialized yX0_sumOfSamples.cls ∈ wsL_law ∧ Cond.code yX0_sumOfSamples cX0_sumOfSamples 4 (some .long) ∈ wsL_law := ⟨by decide +kernel, by decide +kernel, by decide +kernel, by decide +kernel, by decide +kernel⟩
theorem dc_X0_sumOfSamples : yX0_sumOfSamples.cls ≠ "java/lang/invoke/MethodHandle" ∧ yX0_sumOfSamples.cls ≠ "java/lang/invoke/VarHandle" ∧ (parseMethodDescriptor yX0_sumOfSamples.desc).map (fun d => d.parameters.length) = some 0 := by decide +kernel
theorem lkX0_X0_blackenUpTo : Cond.methodLink RX0 194 yX0_blackenUpTo ∈ wsL_law ∧ Cond.instanceMethod yX0_blackenUpTo ∈ wsL_law ∧ Cond.selects yX0_blackenUpTo.cls yX0_blackenUpTo yX0_blackenUpTo ∈ wsL_law ∧ Cond.initialized yX0_blackenUpTo.cls ∈ wsL_law ∧ Cond.code yX0_blackenUpTo cX0_blackenUpTo 3 none ∈ wsL_law := ⟨by decide +kernel, by decide +kernel, by decide +kernel, by decide +kernel, by decide +kernel⟩
theorem dc_X0_blackenUpTo : yX0_blackenUpTo.cls ≠ "java/lang/invoke/MethodHandle" ∧ yX0_blackenUpTo.cls ≠ "java/lang/invoke/VarHandle" ∧ (parseMethodDescriptor yX0_blackenUpTo.desc).map (fun d => d.parameters.length) = some 2 := by decide +kernel
theorem lkX0_X0_enqueue : Cond.methodLink RX0 124 yX0_enqueue ∈ wsL_law ∧ Cond.instanceMethod yX0_enqueue ∈ wsL_law ∧ Cond.selects yX0_enqueue.cls yX0_enqueue yX0_enqueue ∈ wsL_law ∧ Cond.initialized yX0_enqueue.cls ∈ wsL_law ∧ Cond.code yX0_enqueue cX0_enqueue 2 none ∈ wsL_law := ⟨by decide +kernel, by decide +kernel, by decide +kernel, by decide +kernel, by decide +kernel⟩
theorem dc_X0_enqueue : yX0_enqueue.cls ≠ "java/lang/invoke/MethodHandle" ∧ yX0_enqueue.cls ≠ "java/lang/invoke/VarHandle" ∧ (parseMethodDescriptor yX0_enqueue.desc).map (fun d => d.parameters.length) = some 1 := by decide +kernel
theorem lkX0_X0_isCells : Cond.methodLink RX0 109 yX0_isCells ∈ wsL_law ∧ Cond.static yX0_isCells ∈ wsL_law ∧ Cond.initialized yX0_isCells.cls ∈ wsL_law ∧ Cond.code yX0_isCells cX0_isCells 1 (some .boolean) ∈ wsL_law := ⟨by decide +kernel, by decide +kernel, by decide +kernel, by decide +kernel⟩
theorem dc_X0_isCells : yX0_isCells.cls ≠ "java/lang/invoke/MethodHandle" ∧ yX0_isCells.cls ≠ "java/lang/invoke/VarHandle" ∧ (parseMethodDescriptor yX0_isCells.desc).map (fun d => d.parameters.length) = some 1 := by decide +kernel
theorem lkX0_X0_cellNumber : Cond.methodLink RX0 115 yX0_cellNumber ∈ wsL_law ∧ Cond.static yX0_cellNumber ∈ wsL_law ∧ Cond.initialized yX0_cellNumber.cls ∈ wsL_law ∧ Cond.code yX0_cellNumber cX0_cellNumber 5 (some .int) ∈ wsL_law := ⟨by decide +kernel, by decide +kernel, by decide +kernel, by decide +kernel⟩
theorem dc_X0_cellNumber : yX0_cellNumber.cls ≠ "java/lang/invoke/MethodHandle" ∧ yX0_cellNumber.cls ≠ "java/lang/invoke/VarHandle" ∧ (parseMethodDescriptor yX0_cellNumber.desc).map (fun d => d.parameters.length) = some 3 := by decide +kernel
theorem lkX0_X0_quarterNumber : Cond.methodLink RX0 190 yX0_quarterNumber ∈ wsL_law ∧ Cond.static yX0_quarterNumber ∈ wsL_law ∧ Cond.initialized yX0_quarterNumber.cls ∈ wsL_law ∧ Cond.code yX0_quarterNumber cX0_quarterNumber 2 (some .int) ∈ wsL_law := ⟨by decide +kernel, by decide +kernel, by decide +kernel, by decide +kernel⟩
theorem dc_X0_quarterNumber : yX0_quarterNumber.cls ≠ "java/lang/invoke/MethodHandle" ∧ yX0_quarterNumber.cls ≠ "java/lang/invoke/VarHandle" ∧ (parseMethodDescriptor yX0_quarterNumber.desc).map (fun d => d.parameters.length) = some 2 := by decide +kernel
theorem lkX0_X0_turnSpecks : Cond.methodLink RX0 140 yX0_turnSpecks ∈ wsL_law ∧ Cond.instanceMethod yX0_turnSpecks ∈ wsL_law ∧ Cond.selects yX0_turnSpecks.cls yX0_turnSpecks yX0_turnSpecks ∈ wsL_law ∧ Cond.initialized yX0_turnSpecks.cls ∈ wsL_law ∧ Cond.code yX0_turnSpecks cX0_turnSpecks 5 (some .int) ∈ wsL_law := ⟨by decide +kernel, by decide +kernel, by decide +kernel, by decide +kernel, by decide +kernel⟩
theorem dc_X0_turnSpecks : yX0_turnSpecks.cls ≠ "java/lang/invoke/MethodHandle" ∧ yX0_turnSpecks.cls ≠ "java/lang/invoke/VarHandle" ∧ (parseMethodDescriptor yX0_turnSpecks.desc).map (fun d => d.parameters.length) = some 2 := by decide +kernel
theorem lkX0_X0_unmarkAll : Cond.methodLink RX0 201 yX0_unmarkAll ∈ wsL_law ∧ Cond.instanceMethod yX0_unmarkAll ∈ wsL_law ∧ Cond.selects yX0_unmarkAll.cls yX0_unmarkAll yX0_unmarkAll ∈ wsL_law ∧ Cond.initialized yX0_unmarkAll.cls ∈ wsL_law ∧ Cond.code yX0_unmarkAll cX0_unmarkAll 2 none ∈ wsL_law := ⟨by decide +kernel, by decide +kernel, by decide +kernel, by decide +kernel, by decide +kernel⟩
theorem dc_X0_unmarkAll : yX0_unmarkAll.cls ≠ "java/lang/invoke/MethodHandle" ∧ yX0_unmarkAll.cls ≠ "java/lang/invoke/VarHandle" ∧ (parseMethodDescriptor yX0_unmarkAll.desc).map (fun d => d.parameters.length) = some 0 := by decide +kernel
theorem lkX0_X0_gatherPart : Cond.methodLink RX0 204 yX0_gatherPart ∈ wsL_law ∧ Cond.instanceMethod yX0_gatherPart ∈ wsL_law ∧ Cond.selects yX0_gatherPart.cls yX0_gatherPart yX0_gatherPart ∈ wsL_law ∧ Cond.initialized yX0_gatherPart.cls ∈ wsL_law ∧ Cond.code yX0_gatherPart cX0_gatherPart 6 none ∈ wsL_law := ⟨by decide +kernel, by decide +kernel, by decide +kernel, by decide +kernel, by decide +kernel⟩
theorem dc_X0_gatherPart : yX0_gatherPart.cls ≠ "java/lang/invoke/MethodHandle" ∧ yX0_gatherPart.cls ≠ "java/lang/invoke/VarHandle" ∧ (parseMethodDescriptor yX0_gatherPart.desc).map (fun d => d.parameters.length) = some 2 := by decide +kernel
theorem lkX0_X0_isEdge : Cond.methodLink RX0 144 yX0_isEdge ∈ wsL_law ∧ Cond.instanceMethod yX0_isEdge ∈ wsL_law ∧ Cond.selects yX0_isEdge.cls yX0_isEdge yX0_isEdge ∈ wsL_law ∧ Cond.initialized yX0_isEdge.cls ∈ wsL_law ∧ Cond.code yX0_isEdge cX0_isEdge 3 (some .boolean) ∈ wsL_law := ⟨by decide +kernel, by decide +kernel, by decide +kernel, by decide +kernel, by decide +kernel⟩
theorem dc_X0_isEdge : yX0_isEdge.cls ≠ "java/lang/invoke/MethodHandle" ∧ yX0_isEdge.cls ≠ "java/lang/invoke/VarHandle" ∧ (parseMethodDescriptor yX0_isEdge.desc).map (fun d => d.parameters.length) = some 2 := by decide +kernel
theorem lkX0_X0_countBlack : Cond.methodLink RX0 90 yX0_countBlack ∈ wsL_law ∧ Cond.instanceMethod yX0_countBlack ∈ wsL_law ∧ Cond.selects yX0_countBlack.cls yX0_countBlack yX0_countBlack ∈ wsL_law ∧ Cond.initialized yX0_countBlack.cls ∈ wsL_law ∧ Cond.code yX0_countBlack cX0_countBlack 3 (some .int) ∈ wsL_law := ⟨by decide +kernel, by decide +kernel, by decide +kernel, by decide +kernel, by decide +kernel⟩
theorem dc_X0_countBlack : yX0_countBlack.cls ≠ "java/lang/invoke/MethodHandle" ∧ yX0_countBlack.cls ≠ "java/lang/invoke/VarHandle" ∧ (parseMethodDescriptor yX0_countBlack.desc).map (fun d => d.parameters.length) = some 0 := by decide +kernel
theorem lkX0_J7_fill_53178 : Cond.methodLink RX0 95 yJ7_fill_53178 ∈ wsL_law ∧ Cond.static yJ7_fill_53178 ∈ wsL_law ∧ Cond.initialized yJ7_fill_53178.cls ∈ wsL_law ∧ Cond.code yJ7_fill_53178 cJ7_fill_53178 4 none ∈ wsL_law := ⟨by decide +kernel, by decide +kernel, by decide +kernel, by decide +kernel⟩
theorem dc_J7_fill_53178 : yJ7_fill_53178.cls ≠ "java/lang/invoke/MethodHandle" ∧ yJ7_fill_53178.cls ≠ "java/lang/invoke/VarHandle" ∧ (parseMethodDescriptor yJ7_fill_53178.desc).map (fun d => d.parameters.length) = some 2 := by decide +kernel
theorem lkX0_X0_cornerOf : Cond.methodLink RX0 178 yX0_cornerOf ∈ wsL_law ∧ Cond.instanceMethod yX0_cornerOf ∈ wsL_law ∧ Cond.selects yX0_cornerOf.cls yX0_cornerOf yX0_cornerOf ∈ wsL_law ∧ Cond.initialized yX0_cornerOf.cls ∈ wsL_law ∧ Cond.code yX0_cornerOf cX0_cornerOf 3 (some .int) ∈ wsL_law := ⟨by decide +kernel, by decide +kernel, by decide +kernel, by decide +kernel, by decide +kernel⟩
theorem dc_X0_cornerOf : yX0_cornerOf.cls ≠ "java/lang/invoke/MethodHandle" ∧ yX0_cornerOf.cls ≠ "java/lang/invoke/VarHandle" ∧ (parseMethodDescriptor yX0_cornerOf.desc).map (fun d => d.parameters.length) = some 2 := by decide +kernel
theorem lkX0_X0_columnOf : Cond.methodLink RX0 128 yX0_columnOf ∈ wsL_law ∧ Cond.instanceMethod yX0_columnOf ∈ wsL_law ∧ Cond.selects yX0_columnOf.cls yX0_columnOf yX0_columnOf ∈ wsL_law ∧ Cond.initialized yX0_columnOf.cls ∈ wsL_law ∧ Cond.code yX0_columnOf cX0_columnOf 2 (some .int) ∈ wsL_law := ⟨by decide +kernel, by decide +kernel, by decide +kernel, by decide +kernel, by decide +kernel⟩
theorem dc_X0_columnOf : yX0_columnOf.cls ≠ "java/lang/invoke/MethodHandle" ∧ yX0_columnOf.cls ≠ "java/lang/invoke/VarHandle" ∧ (parseMethodDescriptor yX0_columnOf.desc).map (fun d => d.parameters.length) = some 1 := by decide +kernel
theorem lkX0_X0_rowOf : Cond.methodLink RX0 131 yX0_rowOf ∈ wsL_law ∧ Cond.instanceMethod yX0_rowOf ∈ wsL_law ∧ Cond.selects yX0_rowOf.cls yX0_rowOf yX0_rowOf ∈ wsL_law ∧ Cond.initialized yX0_rowOf.cls ∈ wsL_law ∧ Cond.code yX0_rowOf cX0_rowOf 2 (some .int) ∈ wsL_law := ⟨by decide +kernel, by decide +kernel, by decide +kernel, by decide +kernel, by decide +kernel⟩
theorem dc_X0_rowOf : yX0_rowOf.cls ≠ "java/lang/invoke/MethodHandle" ∧ yX0_rowOf.cls ≠ "java/lang/invoke/VarHandle" ∧ (parseMethodDescriptor yX0_rowOf.desc).map (fun d => d.parameters.length) = some 1 := by decide +kernel
theorem lkX0_X0_gather : Cond.methodLink RX0 197 yX0_gather ∈ wsL_law ∧ Cond.instanceMethod yX0_gather ∈ wsL_law ∧ Cond.selects yX0_gather.cls yX0_gather yX0_gather ∈ wsL_law ∧ Cond.initialized yX0_gather.cls ∈ wsL_law ∧ Cond.code yX0_gather cX0_gather 5 none ∈ wsL_law := ⟨by decide +kernel, by decide +kernel, by decide +kernel, by decide +kernel, by decide +kernel⟩
theorem dc_X0_gather : yX0_gather.cls ≠ "java/lang/invoke/MethodHandle" ∧ yX0_gather.cls ≠ "java/lang/invoke/VarHandle" ∧ (parseMethodDescriptor yX0_gather.desc).map (fun d => d.parameters.length) = some 3 := by decide +kernel
theorem lkX0_X0_bestBound : Cond.methodLink RX0 75 yX0_bestBound ∈ wsL_law ∧ Cond.instanceMethod yX0_bestBound ∈ wsL_law ∧ Cond.selects yX0_bestBound.cls yX0_bestBound yX0_bestBound ∈ wsL_law ∧ Cond.initialized yX0_bestBound.cls ∈ wsL_law ∧ Cond.code yX0_bestBound cX0_bestBound 21 (some .int) ∈ wsL_law := ⟨by decide +kernel, by decide +kernel, by decide +kernel, by decide +kernel, by decide +kernel⟩
theorem dc_X0_bestBound : yX0_bestBound.cls ≠ "java/lang/invoke/MethodHandle" ∧ yX0_bestBound.cls ≠ "java/lang/invoke/VarHandle" ∧ (parseMethodDescriptor yX0_bestBound.desc).map (fun d => d.parameters.length) = some 0 := by decide +kernel
theorem lkX0_X0_nearestSide : Cond.methodLink RX0 7 yX0_nearestSide ∈ wsL_law ∧ Cond.static yX0_nearestSide ∈ wsL_law ∧ Cond.initialized yX0_nearestSide.cls ∈ wsL_law ∧ Cond.code yX0_nearestSide cX0_nearestSide 1 (some .int) ∈ wsL_law := ⟨by decide +kernel, by decide +kernel, by decide +kernel, by decide +kernel⟩
theorem dc_X0_nearestSide : yX0_nearestSide.cls ≠ "java/lang/invoke/MethodHandle" ∧ yX0_nearestSide.cls ≠ "java/lang/invoke/VarHandle" ∧ (parseMethodDescriptor yX0_nearestSide.desc).map (fun d => d.parameters.length) = some 1 := by decide +kernel
theorem lkX0_X0_sumBetween : Cond.methodLink RX0 153 yX0_sumBetween ∈ wsL_law ∧ Cond.instanceMethod yX0_sumBetween ∈ wsL_law ∧ Cond.selects yX0_sumBetween.cls yX0_sumBetween yX0_sumBetween ∈ wsL_law ∧ Cond.initialized yX0_sumBetween.cls ∈ wsL_law ∧ Cond.code yX0_sumBetween cX0_sumBetween 10 (some .long) ∈ wsL_law := ⟨by decide +kernel, by decide +kernel, by decide +kernel, by decide +kernel, by decide +kernel⟩
theorem dc_X0_sumBetween : yX0_sumBetween.cls ≠ "java/lang/invoke/MethodHandle" ∧ yX0_sumBetween.cls ≠ "java/lang/invoke/VarHandle" ∧ (parseMethodDescriptor yX0_sumBetween.desc).map (fun d => d.parameters.length) = some 5 := by decide +kernel
theorem lkX0_X0_isBlack : Cond.methodLink RX0 220 yX0_isBlack ∈ wsL_law ∧ Cond.instanceMethod yX0_isBlack ∈ wsL_law ∧ Cond.selects yX0_isBlack.cls yX0_isBlack yX0_isBlack ∈ wsL_law ∧ Cond.initialized yX0_isBlack.cls ∈ wsL_law ∧ Cond.code yX0_isBlack cX0_isBlack 3 (some .boolean) ∈ wsL_law := ⟨by decide +kernel, by decide +kernel, by decide +kernel, by decide +kernel, by decide +kernel⟩
theorem dc_X0_isBlack : yX0_isBlack.cls ≠ "java/lang/invoke/MethodHandle" ∧ yX0_isBlack.cls ≠ "java/lang/invoke/VarHandle" ∧ (parseMethodDescriptor yX0_isBlack.desc).map (fun d => d.parameters.length) = some 2 := by decide +kernel
theorem lkX0_X0_queuedComeToEdge : Cond.methodLink RX0 216 yX0_queuedComeToEdge ∈ wsL_law ∧ Cond.instanceMethod yX0_queuedComeToEdge ∈ wsL_law ∧ Cond.selects yX0_queuedComeToEdge.cls yX0_queuedComeToEdge yX0_queuedComeToEdge ∈ wsL_law ∧ Cond.initialized yX0_queuedComeToEdge.cls ∈ wsL_law ∧ Cond.code yX0_queuedComeToEdge cX0_queuedComeToEdge 4 (some .boolean) ∈ wsL_law := ⟨by decide +kernel, by decide +kernel, by decide +kernel, by decide +kernel, by decide +kernel⟩
theorem dc_X0_queuedComeToEdge : yX0_queuedComeToEdge.cls ≠ "java/lang/invoke/MethodHandle" ∧ yX0_queuedComeToEdge.cls ≠ "java/lang/invoke/VarHandle" ∧ (parseMethodDescriptor yX0_queuedComeToEdge.desc).map (fun d => d.parameters.length) = some 0 := by decide +kernel
theorem lkX0_X0_blackenRound : Cond.methodLink RX0 134 yX0_blackenRound ∈ wsL_law ∧ Cond.instanceMethod yX0_blackenRound ∈ wsL_law ∧ Cond.selects yX0_blackenRound.cls yX0_blackenRound yX0_blackenRound ∈ wsL_law ∧ Cond.initialized yX0_blackenRound.cls ∈ wsL_law ∧ Cond.code yX0_blackenRound cX0_blackenRound 6 none ∈ wsL_law := ⟨by decide +kernel, by decide +kernel, by decide +kernel, by decide +kernel, by decide +kernel⟩
theorem dc_X0_blackenRound : yX0_blackenRound.cls ≠ "java/lang/invoke/MethodHandle" ∧ yX0_blackenRound.cls ≠ "java/lang/invoke/VarHandle" ∧ (parseMethodDescriptor yX0_blackenRound.desc).map (fun d => d.parameters.length) = some 3 := by decide +kernel
theorem lkX0_X0_fillSums : Cond.methodLink RX0 83 yX0_fillSums ∈ wsL_law ∧ Cond.instanceMethod yX0_fillSums ∈ wsL_law ∧ Cond.selects yX0_fillSums.cls yX0_fillSums yX0_fillSums ∈ wsL_law ∧ Cond.initialized yX0_fillSums.cls ∈ wsL_law ∧ Cond.code yX0_fillSums cX0_fillSums 11 none ∈ wsL_law := ⟨by decide +kernel, by decide +kernel, by decide +kernel, by decide +kernel, by decide +kernel⟩
theorem dc_X0_fillSums : yX0_fillSums.cls ≠ "java/lang/invoke/MethodHandle" ∧ yX0_fillSums.cls ≠ "java/lang/invoke/VarHandle" ∧ (parseMethodDescriptor yX0_fillSums.desc).map (fun d => d.parameters.length) = some 0 := by decide +kernel
theorem lkX0_X0_isDarkInWindow : Cond.methodLink RX0 86 yX0_isDarkInWindow ∈ wsL_law ∧ Cond.instanceMethod yX0_isDarkInWindow ∈ wsL_law ∧ Cond.selects yX0_isDarkInWindow.cls yX0_isDarkInWindow yX0_isDarkInWindow ∈ wsL_law ∧ Cond.initialized yX0_isDarkInWindow.cls ∈ wsL_law ∧ Cond.code yX0_isDarkInWindow cX0_isDarkInWindow 20 (some .boolean) ∈ wsL_law := ⟨by decide +kernel, by decide +kernel, by decide +kernel, by decide +kernel, by decide +kernel⟩
theorem dc_X0_isDarkInWindow : yX0_isDarkInWindow.cls ≠ "java/lang/invoke/MethodHandle" ∧ yX0_isDarkInWindow.cls ≠ "java/lang/invoke/VarHandle" ∧ (parseMethodDescriptor yX0_isDarkInWindow.desc).map (fun d => d.parameters.length) = some 4 := by decide +kernel
theorem lkX0_J9_floorMod_7cf53 : Cond.methodLink RX0 70 yJ9_floorMod_7cf53 ∈ wsL_law ∧ Cond.static yJ9_floorMod_7cf53 ∈ wsL_law ∧ Cond.initialized yJ9_floorMod_7cf53.cls ∈ wsL_law ∧ Cond.code yJ9_floorMod_7cf53 cJ9_floorMod_7cf53 3 (some .int) ∈ wsL_law := ⟨by decide +kernel, by decide +kernel, by decide +kernel, by decide +kernel⟩
theorem dc_J9_floorMod_7cf53 : yJ9_floorMod_7cf53.cls ≠ "java/lang/invoke/MethodHandle" ∧ yJ9_floorMod_7cf53.cls ≠ "java/lang/invoke/VarHandle" ∧ (parseMethodDescriptor yJ9_floorMod_7cf53.desc).map (fun d => d.parameters.length) = some 2 := by decide +kernel
theorem lkX0_X0_spreadRow : Cond.methodLink RX0 105 yX0_spreadRow ∈ wsL_law ∧ Cond.instanceMethod yX0_spreadRow ∈ wsL_law ∧ Cond.selects yX0_spreadRow.cls yX0_spreadRow yX0_spreadRow ∈ wsL_law ∧ Cond.initialized yX0_spreadRow.cls ∈ wsL_law ∧ Cond.code yX0_spreadRow cX0_spreadRow 7 none ∈ wsL_law := ⟨by decide +kernel, by decide +kernel, by decide +kernel, by decide +kernel, by decide +kernel⟩
theorem dc_X0_spreadRow : yX0_spreadRow.cls ≠ "java/lang/invoke/MethodHandle" ∧ yX0_spreadRow.cls ≠ "java/lang/invoke/VarHandle" ∧ (parseMethodDescriptor yX0_spreadRow.desc).map (fun d => d.parameters.length) = some 2 := by decide +kernel
theorem lkX0_X0_spreadSample : Cond.methodLink RX0 183 yX0_spreadSample ∈ wsL_law ∧ Cond.instanceMethod yX0_spreadSample ∈ wsL_law ∧ Cond.selects yX0_spreadSample.cls yX0_spreadSample yX0_spreadSample ∈ wsL_law ∧ Cond.initialized yX0_spreadSample.cls ∈ wsL_law ∧ Cond.code yX0_spreadSample cX0_spreadSample 11 none ∈ wsL_law := ⟨by decide +kernel, by decide +kernel, by decide +kernel, by decide +kernel, by decide +kernel⟩
theorem dc_X0_spreadSample : yX0_spreadSample.cls ≠ "java/lang/invoke/MethodHandle" ∧ yX0_spreadSample.cls ≠ "java/lang/invoke/VarHandle" ∧ (parseMethodDescriptor yX0_spreadSample.desc).map (fun d => d.parameters.length) = some 4 := by decide +kernel
theorem lkX0_X0_passTo : Cond.methodLink RX0 187 yX0_passTo ∈ wsL_law ∧ Cond.instanceMethod yX0_passTo ∈ wsL_law ∧ Cond.selects yX0_passTo.cls yX0_passTo yX0_passTo ∈ wsL_law ∧ Cond.initialized yX0_passTo.cls ∈ wsL_law ∧ Cond.code yX0_passTo cX0_passTo 4 none ∈ wsL_law := ⟨by decide +kernel, by decide +kernel, by decide +kernel, by decide +kernel, by decide +kernel⟩
theorem dc_X0_passTo : yX0_passTo.cls ≠ "java/lang/invoke/MethodHandle" ∧ yX0_passTo.cls ≠ "java/lang/invoke/VarHandle" ∧ (parseMethodDescriptor yX0_passTo.desc).map (fun d => d.parameters.length) = some 3 := by decide +kernel
theorem lkX0_X0_isPart : Cond.methodLink RX0 147 yX0_isPart ∈ wsL_law ∧ Cond.static yX0_isPart ∈ wsL_law ∧ Cond.initialized yX0_isPart.cls ∈ wsL_law ∧ Cond.code yX0_isPart cX0_isPart 3 (some .boolean) ∈ wsL_law := ⟨by decide +kernel, by decide +kernel, by decide +kernel, by decide +kernel⟩
theorem dc_X0_isPart : yX0_isPart.cls ≠ "java/lang/invoke/MethodHandle" ∧ yX0_isPart.cls ≠ "java/lang/invoke/VarHandle" ∧ (parseMethodDescriptor yX0_isPart.desc).map (fun d => d.parameters.length) = some 3 := by decide +kernel
theorem lkX0_X0_countBlackParts : Cond.methodLink RX0 159 yX0_countBlackParts ∈ wsL_law ∧ Cond.instanceMethod yX0_countBlackParts ∈ wsL_law ∧ Cond.selects yX0_countBlackParts.cls yX0_countBlackParts yX0_countBlackParts ∈ wsL_law ∧ Cond.initialized yX0_countBlackParts.cls ∈ wsL_law ∧ Cond.code yX0_countBlackParts cX0_countBlackParts 3 (some .int) ∈ wsL_law := ⟨by decide +kernel, by decide +kernel, by decide +kernel, by decide +kernel, by decide +kernel⟩
theorem dc_X0_countBlackParts : yX0_countBlackParts.cls ≠ "java/lang/invoke/MethodHandle" ∧ yX0_countBlackParts.cls ≠ "java/lang/invoke/VarHandle" ∧ (parseMethodDescriptor yX0_countBlackParts.desc).map (fun d => d.parameters.length) = some 0 := by decide +kernel
theorem lkX0_X0_countGreys : Cond.methodLink RX0 162 yX0_countGreys ∈ wsL_law ∧ Cond.instanceMethod yX0_countGreys ∈ wsL_law ∧ Cond.selects yX0_countGreys.cls yX0_countGreys yX0_countGreys ∈ wsL_law ∧ Cond.initialized yX0_countGreys.cls ∈ wsL_law ∧ Cond.code yX0_countGreys cX0_countGreys 3 (some .int) ∈ wsL_law := ⟨by decide +kernel, by decide +kernel, by decide +kernel, by decide +kernel, by decide +kernel⟩
theorem dc_X0_countGreys : yX0_countGreys.cls ≠ "java/lang/invoke/MethodHandle" ∧ yX0_countGreys.cls ≠ "java/lang/invoke/VarHandle" ∧ (parseMethodDescriptor yX0_countGreys.desc).map (fun d => d.parameters.length) = some 0 := by decide +kernel
theorem lkX0_X0_isSpeck : Cond.methodLink RX0 208 yX0_isSpeck ∈ wsL_law ∧ Cond.instanceMethod yX0_isSpeck ∈ wsL_law ∧ Cond.selects yX0_isSpeck.cls yX0_isSpeck yX0_isSpeck ∈ wsL_law ∧ Cond.initialized yX0_isSpeck.cls ∈ wsL_law ∧ Cond.code yX0_isSpeck cX0_isSpeck 3 (some .boolean) ∈ wsL_law := ⟨by decide +kernel, by decide +kernel, by decide +kernel, by decide +kernel, by decide +kernel⟩
theorem dc_X0_isSpeck : yX0_isSpeck.cls ≠ "java/lang/invoke/MethodHandle" ∧ yX0_isSpeck.cls ≠ "java/lang/invoke/VarHandle" ∧ (parseMethodDescriptor yX0_isSpeck.desc).map (fun d => d.parameters.length) = some 2 := by decide +kernel
theorem lkX0_X0_turnQueued : Cond.methodLink RX0 212 yX0_turnQueued ∈ wsL_law ∧ Cond.instanceMethod yX0_turnQueued ∈ wsL_law ∧ Cond.selects yX0_turnQueued.cls yX0_turnQueued yX0_turnQueued ∈ wsL_law ∧ Cond.initialized yX0_turnQueued.cls ∈ wsL_law ∧ Cond.code yX0_turnQueued cX0_turnQueued 3 (some .int) ∈ wsL_law := ⟨by decide +kernel, by decide +kernel, by decide +kernel, by decide +kernel, by decide +kernel⟩
theorem dc_X0_turnQueued : yX0_turnQueued.cls ≠ "java/lang/invoke/MethodHandle" ∧ yX0_turnQueued.cls ≠ "java/lang/invoke/VarHandle" ∧ (parseMethodDescriptor yX0_turnQueued.desc).map (fun d => d.parameters.length) = some 1 := by decide +kernel
theorem lkX1_X1_isIn : Cond.methodLink RX1 36 yX1_isIn ∈ wsL_law ∧ Cond.instanceMethod yX1_isIn ∈ wsL_law ∧ Cond.selects yX1_isIn.cls yX1_isIn yX1_isIn ∈ wsL_law ∧ Cond.initialized yX1_isIn.cls ∈ wsL_law ∧ Cond.code yX1_isIn cX1_isIn 3 (some .boolean) ∈ wsL_law := ⟨by decide +kernel, by decide +kernel, by decide +kernel, by decide +kernel, by decide +kernel⟩
theorem dc_X1_isIn : yX1_isIn.cls ≠ "java/lang/invoke/MethodHandle" ∧ yX1_isIn.cls ≠ "java/lang/invoke/VarHandle" ∧ (parseMethodDescriptor yX1_isIn.desc).map (fun d => d.parameters.length) = some 2 := by decide +kernel
theorem lkX1_X1_all : Cond.methodLink RX1 40 yX1_all ∈ wsL_law ∧ Cond.instanceMethod yX1_all ∈ wsL_law ∧ Cond.selects yX1_all.cls yX1_all yX1_all ∈ wsL_law ∧ Cond.initialized yX1_all.cls ∈ wsL_law ∧ Cond.code yX1_all cX1_all 1 (some .int) ∈ wsL_law := ⟨by decide +kernel, by decide +kernel, by decide +kernel, by decide +kernel, by decide +kernel⟩
theorem dc_X1_all : yX1_all.cls ≠ "java/lang/invoke/MethodHandle" ∧ yX1_all.cls ≠ "java/lang/invoke/VarHandle" ∧ (parseMethodDescriptor yX1_all.desc).map (fun d => d.parameters.length) = some 0 := by decide +kernel
theorem lkX1_X1_isCells : Cond.methodLink RX1 63 yX1_isCells ∈ wsL_law ∧ Cond.static yX1_isCells ∈ wsL_law ∧ Cond.initialized yX1_isCells.cls ∈ wsL_law ∧ Cond.code yX1_isCells cX1_isCells 1 (some .boolean) ∈ wsL_law := ⟨by decide +kernel, by decide +kernel, by decide +kernel, by decide +kernel⟩
theorem dc_X1_isCells : yX1_isCells.cls ≠ "java/lang/invoke/MethodHandle" ∧ yX1_isCells.cls ≠ "java/lang/invoke/VarHandle" ∧ (parseMethodDescriptor yX1_isCells.desc).map (fun d => d.parameters.length) = some 1 := by decide +kernel
theorem lkX1_X1_cellOf : Cond.methodLink RX1 67 yX1_cellOf ∈ wsL_law ∧ Cond.static yX1_cellOf ∈ wsL_law ∧ Cond.initialized yX1_cellOf.cls ∈ wsL_law ∧ Cond.code yX1_cellOf cX1_cellOf 7 (some .int) ∈ wsL_law := ⟨by decide +kernel, by decide +kernel, by decide +kernel, by decide +kernel⟩
theorem dc_X1_cellOf : yX1_cellOf.cls ≠ "java/lang/invoke/MethodHandle" ∧ yX1_cellOf.cls ≠ "java/lang/invoke/VarHandle" ∧ (parseMethodDescriptor yX1_cellOf.desc).map (fun d => d.parameters.length) = some 3 := by decide +kernel
theorem lkX1_X1_turnSpecks : Cond.methodLink RX1 82 yX1_turnSpecks ∈ wsL_law ∧ Cond.instanceMethod yX1_turnSpecks ∈ wsL_law ∧ Cond.selects yX1_turnSpecks.cls yX1_turnSpecks yX1_turnSpecks ∈ wsL_law ∧ Cond.initialized yX1_turnSpecks.cls ∈ wsL_law ∧ Cond.code yX1_turnSpecks cX1_turnSpecks 10 (some .int) ∈ wsL_law := ⟨by decide +kernel, by decide +kernel, by decide +kernel, by decide +kernel, by decide +kernel⟩
theorem dc_X1_turnSpecks : yX1_turnSpecks.cls ≠ "java/lang/invoke/MethodHandle" ∧ yX1_turnSpecks.cls ≠ "java/lang/invoke/VarHandle" ∧ (parseMethodDescriptor yX1_turnSpecks.desc).map (fun d => d.parameters.length) = some 2 := by decide +kernel
theorem lkX1_X1_isBlackAt : Cond.methodLink RX1 86 yX1_isBlackAt ∈ wsL_law ∧ Cond.instanceMethod yX1_isBlackAt ∈ wsL_law ∧ Cond.selects yX1_isBlackAt.cls yX1_isBlackAt yX1_isBlackAt ∈ wsL_law ∧ Cond.initialized yX1_isBlackAt.cls ∈ wsL_law ∧ Cond.code yX1_isBlackAt cX1_isBlackAt 3 (some .boolean) ∈ wsL_law := ⟨by decide +kernel, by decide +kernel, by decide +kernel, by decide +kernel, by decide +kernel⟩
theorem dc_X1_isBlackAt : yX1_isBlackAt.cls ≠ "java/lang/invoke/MethodHandle" ∧ yX1_isBlackAt.cls ≠ "java/lang/invoke/VarHandle" ∧ (parseMethodDescriptor yX1_isBlackAt.desc).map (fun d => d.parameters.length) = some 2 := by decide +kernel
theorem lkX1_X1_blacks : Cond.methodLink RX1 52 yX1_blacks ∈ wsL_law ∧ Cond.instanceMethod yX1_blacks ∈ wsL_law ∧ Cond.selects yX1_blacks.cls yX1_blacks yX1_blacks ∈ wsL_law ∧ Cond.initialized yX1_blacks.cls ∈ wsL_law ∧ Cond.code yX1_blacks cX1_blacks 3 (some .int) ∈ wsL_law := ⟨by decide +kernel, by decide +kernel, by decide +kernel, by decide +kernel, by decide +kernel⟩
theorem dc_X1_blacks : yX1_blacks.cls ≠ "java/lang/invoke/MethodHandle" ∧ yX1_blacks.cls ≠ "java/lang/invoke/VarHandle" ∧ (parseMethodDescriptor yX1_blacks.desc).map (fun d => d.parameters.length) = some 0 := by decide +kernel
theorem lkX1_X1_lesser : Cond.methodLink RX1 74 yX1_lesser ∈ wsL_law ∧ Cond.instanceMethod yX1_lesser ∈ wsL_law ∧ Cond.selects yX1_lesser.cls yX1_lesser yX1_lesser ∈ wsL_law ∧ Cond.initialized yX1_lesser.cls ∈ wsL_law ∧ Cond.code yX1_lesser cX1_lesser 5 (some .int) ∈ wsL_law := ⟨by decide +kernel, by decide +kernel, by decide +kernel, by decide +kernel, by decide +kernel⟩
theorem dc_X1_lesser : yX1_lesser.cls ≠ "java/lang/invoke/MethodHandle" ∧ yX1_lesser.cls ≠ "java/lang/invoke/VarHandle" ∧ (parseMethodDescriptor yX1_lesser.desc).map (fun d => d.parameters.length) = some 4 := by decide +kernel
theorem lkX1_X1_touchesBlack : Cond.methodLink RX1 71 yX1_touchesBlack ∈ wsL_law ∧ Cond.instanceMethod yX1_touchesBlack ∈ wsL_law ∧ Cond.selects yX1_touchesBlack.cls yX1_touchesBlack yX1_touchesBlack ∈ wsL_law ∧ Cond.initialized yX1_touchesBlack.cls ∈ wsL_law ∧ Cond.code yX1_touchesBlack cX1_touchesBlack 6 (some .boolean) ∈ wsL_law := ⟨by decide +kernel, by decide +kernel, by decide +kernel, by decide +kernel, by decide +kernel⟩
theorem dc_X1_touchesBlack : yX1_touchesBlack.cls ≠ "java/lang/invoke/MethodHandle" ∧ yX1_touchesBlack.cls ≠ "java/lang/invoke/VarHandle" ∧ (parseMethodDescriptor yX1_touchesBlack.desc).map (fun d => d.parameters.length) = some 2 := by decide +kernel
theorem lkX1_X1_isDark : Cond.methodLink RX1 48 yX1_isDark ∈ wsL_law ∧ Cond.instanceMethod yX1_isDark ∈ wsL_law ∧ Cond.selects yX1_isDark.cls yX1_isDark yX1_isDark ∈ wsL_law ∧ Cond.initialized yX1_isDark.cls ∈ wsL_law ∧ Cond.code yX1_isDark cX1_isDark 17 (some .boolean) ∈ wsL_law := ⟨by decide +kernel, by decide +kernel, by decide +kernel, by decide +kernel, by decide +kernel⟩
theorem dc_X1_isDark : yX1_isDark.cls ≠ "java/lang/invoke/MethodHandle" ∧ yX1_isDark.cls ≠ "java/lang/invoke/VarHandle" ∧ (parseMethodDescriptor yX1_isDark.desc).map (fun d => d.parameters.length) = some 4 := by decide +kernel
theorem lkX1_X1_findParts : Cond.methodLink RX1 78 yX1_findParts ∈ wsL_law ∧ Cond.instanceMethod yX1_findParts ∈ wsL_law ∧ Cond.selects yX1_findParts.cls yX1_findParts yX1_findParts ∈ wsL_law ∧ Cond.initialized yX1_findParts.cls ∈ wsL_law ∧ Cond.code yX1_findParts cX1_findParts 7 none ∈ wsL_law := ⟨by decide +kernel, by decide +kernel, by decide +kernel, by decide +kernel, by decide +kernel⟩
theorem dc_X1_findParts : yX1_findParts.cls ≠ "java/lang/invoke/MethodHandle" ∧ yX1_findParts.cls ≠ "java/lang/invoke/VarHandle" ∧ (parseMethodDescriptor yX1_findParts.desc).map (fun d => d.parameters.length) = some 1 := by decide +kernel
theorem lkX1_X1_pass : Cond.methodLink RX1 59 yX1_pass ∈ wsL_law ∧ Cond.instanceMethod yX1_pass ∈ wsL_law ∧ Cond.selects yX1_pass.cls yX1_pass yX1_pass ∈ wsL_law ∧ Cond.initialized yX1_pass.cls ∈ wsL_law ∧ Cond.code yX1_pass cX1_pass 4 none ∈ wsL_law := ⟨by decide +kernel, by decide +kernel, by decide +kernel, by decide +kernel, by decide +kernel⟩
theorem dc_X1_pass : yX1_pass.cls ≠ "java/lang/invoke/MethodHandle" ∧ yX1_pass.cls ≠ "java/lang/invoke/VarHandle" ∧ (parseMethodDescriptor yX1_pass.desc).map (fun d => d.parameters.length) = some 3 := by decide +kernel
theorem lkX1_X1_parts : Cond.methodLink RX1 89 yX1_parts ∈ wsL_law ∧ Cond.instanceMethod yX1_parts ∈ wsL_law ∧ Cond.selects yX1_parts.cls yX1_parts yX1_parts ∈ wsL_law ∧ Cond.initialized yX1_parts.cls ∈ wsL_law ∧ Cond.code yX1_parts cX1_parts 3 (some .int) ∈ wsL_law := ⟨by decide +kernel, by decide +kernel, by decide +kernel, by decide +kernel, by decide +kernel⟩
theorem dc_X1_parts : yX1_parts.cls ≠ "java/lang/invoke/MethodHandle" ∧ yX1_parts.cls ≠ "java/lang/invoke/VarHandle" ∧ (parseMethodDescriptor yX1_parts.desc).map (fun d => d.parameters.length) = some 0 := by decide +kernel
theorem lkX1_X1_different : Cond.methodLink RX1 92 yX1_different ∈ wsL_law ∧ Cond.instanceMethod yX1_different ∈ wsL_law ∧ Cond.selects yX1_different.cls yX1_different yX1_different ∈ wsL_law ∧ Cond.initialized yX1_different.cls ∈ wsL_law ∧ Cond.code yX1_different cX1_different 5 (some .int) ∈ wsL_law := ⟨by decide +kernel, by decide +kernel, by decide +kernel, by decide +kernel, by decide +kernel⟩
theorem dc_X1_different : yX1_different.cls ≠ "java/lang/invoke/MethodHandle" ∧ yX1_different.cls ≠ "java/lang/invoke/VarHandle" ∧ (parseMethodDescriptor yX1_different.desc).map (fun d => d.parameters.length) = some 0 := by decide +kernel
end
section
-- THE TWO WORLDS, by their numbers; one row a field, an array; the links of calls
def bI (b : Bool) : Int32 := if b then 1 else 0
theorem bI_t : bI true = 1 := rfl
theorem bI_f : bI false = 0 := rfl
theorem bI_nI (b : Bool) : bI b = nI (if b then 1 else 0) := by cases b <;> rfl
theorem bI_0 (b : Bool) : bI b = 0 ↔ b = false := by cases b <;> simp [bI]
theorem bI_nar (b : Bool) : vp_nar .boolean (bI b) = bI b := by cases b <;> decide +kernel
theorem bI_01 (b : Bool) : bI b = 0 ∨ bI b = 1 := by cases b <;> simp [bI]
theorem bI_inj {a b : Bool} : bI a = bI b ↔ a = b := by cases a <;> cases b <;> simp [bI]
def q_g (w h : Nat) : Prop := 1 ≤ w ∧ w ≤ 16 ∧ 1 ≤ h ∧ h ≤ 16
theorem q_gn {w h : Nat} (g : q_g w h) : w * h ≤ 256 := Nat.mul_le_mul g.2.1 g.2.2.2
theorem q_gn1 {w h : Nat} (g : q_g w h) : 1 ≤ w * h := Nat.mul_le_mul g.1 g.2.2.1
theorem q_gm {w h : Nat} (g : q_g w h) : (w + 1) * (h + 1) ≤ 289 := Nat.mul_le_mul (Nat.succ_le_succ g.2.1) (Nat.succ_le_succ g.2.2.2)
def xw (w h : Nat) (sam : Nat → Nat) (blk : Nat → Bool) (lost : Int64) (ogr : Nat → Nat) (came : Nat → Int32) (sums sqs : Nat → Int64) (mrk : Nat → Bool) (que : Nat → Nat) (qd : Nat) : List q_E :=
  [.inr (0, [.inl (nI w), .inl (nI h), .inl (nI (w * h)), .inr (.inr (some 1)), .inr (.inr (some 2)), .inr (.inl lost), .inr (.inr (some 3)), .inr (.inr (some 4)), .inr (.inr (some 5)), .inr (.inr (some 6)), .inr (.inr (some 7)), .inr (.inr (some 8)), .inl (nI qd)]),
   .inl (0, w * h, .inl (fun j => nI (sam j))), .inl (2, w * h, .inl (fun j => bI (blk j))), .inl (0, 256, .inl (fun j => nI (ogr j))), .inl (0, w * h, .inl came), .inl (1, (w + 1) * (h + 1), .inr sums), .inl (1, (w + 1) * (h + 1), .inr sqs), .inl (2, w * h, .inl (fun j => bI (mrk j))), .inl (0, w * h, .inl (fun j => nI (que j)))]
def mw (w h : Nat) (thr : Nat) (sam : Nat → Nat) (blk nxt : Nat → Bool) (came part : Nat → Int32) (rst : Int64) : List q_E :=
  [.inr (1, [.inl (nI thr), .inl (nI w), .inl (nI h), .inr (.inr (some 1)), .inr (.inr (some 2)), .inr (.inr (some 3)), .inr (.inr (some 4)), .inr (.inr (some 5)), .inr (.inl rst)]),
   .inl (0, 256, .inl (fun j => nI (sam j))), .inl (2, 256, .inl (fun j => bI (blk j))), .inl (2, 256, .inl (fun j => bI (nxt j))), .inl (0, 256, .inl came), .inl (0, 256, .inl part)]
theorem q_updN (f : Nat → Nat) (k v : Nat) (hk : k < 2 ^ 31) : upd (fun j => nI (f j)) (nI k).toNatClampNeg (nI v) = fun j => nI (va_up f k v j) := by
  rw [nI_clamp hk]; funext j
  by_cases h : j = k <;> simp [upd, va_up, h]
theorem q_updB (f : Nat → Bool) (k : Nat) (v : Bool) (hk : k < 2 ^ 31) : upd (fun j => bI (f j)) (nI k).toNatClampNeg (vp_nar .boolean (bI v)) = fun j => bI (va_up f k v j) := by
  rw [nI_clamp hk, bI_nar]; funext j
  by_cases h : j = k <;> simp [upd, va_up, h]
theorem q_updI (f : Nat → Int32) (k : Nat) (v : Int32) (hk : k < 2 ^ 31) : upd f (nI k).toNatClampNeg v = va_up f k v := by
  rw [nI_clamp hk]; funext j
  by_cases h : j = k <;> simp [upd, va_up, h]
theorem q_updL (f : Nat → Int64) (k : Nat) (v : Int64) (hk : k < 2 ^ 31) : vp_updL f (nI k).toNatClampNeg v = va_up f k v := by
  rw [nI_clamp hk]; funext j
  by_cases h : j = k <;> simp [vp_updL, va_up, h]

theorem xg_width {x : q_X} {cc : ByteArray} {fr lo pc : Nat} {lv : List (Option q_V)} {st : List q_V} {w : Nat} {h : Nat} {sam : Nat → Nat} {blk : Nat → Bool} {lost : Int64} {ogr : Nat → Nat} {came : Nat → Int32} {sums : Nat → Int64} {sqs : Nat → Int64} {mrk : Nat → Bool} {que : Nat → Nat} {qd : Nat} (ok : q_ok x cc RX0 fr lo) (hd : decode cc pc = .ok (.getfield 13, 3)) (kk : q_W x (pc + 3) lv (.inl (nI w) :: st) (xw w h sam blk lost ogr came sums sqs mrk que qd)) : q_W x pc lv (.inr (.inr (some 0)) :: st) (xw w h sam blk lost ogr came sums sqs mrk que qd) := q_getG (ci := 0) (f := 0) ok rfl inlX0 (by decide) fX0_width rfl rfl rfl hd kk
theorem xg_height {x : q_X} {cc : ByteArray} {fr lo pc : Nat} {lv : List (Option q_V)} {st : List q_V} {w : Nat} {h : Nat} {sam : Nat → Nat} {blk : Nat → Bool} {lost : Int64} {ogr : Nat → Nat} {came : Nat → Int32} {sums : Nat → Int64} {sqs : Nat → Int64} {mrk : Nat → Bool} {que : Nat → Nat} {qd : Nat} (ok : q_ok x cc RX0 fr lo) (hd : decode cc pc = .ok (.getfield 17, 3)) (kk : q_W x (pc + 3) lv (.inl (nI h) :: st) (xw w h sam blk lost ogr came sums sqs mrk que qd)) : q_W x pc lv (.inr (.inr (some 0)) :: st) (xw w h sam blk lost ogr came sums sqs mrk que qd) := q_getG (ci := 0) (f := 1) ok rfl inlX0 (by decide) fX0_height rfl rfl rfl hd kk
theorem xg_count {x : q_X} {cc : ByteArray} {fr lo pc : Nat} {lv : List (Option q_V)} {st : List q_V} {w : Nat} {h : Nat} {sam : Nat → Nat} {blk : Nat → Bool} {lost : Int64} {ogr : Nat → Nat} {came : Nat → Int32} {sums : Nat → Int64} {sqs : Nat → Int64} {mrk : Nat → Bool} {que : Nat → Nat} {qd : Nat} (ok : q_ok x cc RX0 fr lo) (hd : decode cc pc = .ok (.getfield 20, 3)) (kk : q_W x (pc + 3) lv (.inl (nI (w * h)) :: st) (xw w h sam blk lost ogr came sums sqs mrk que qd)) : q_W x pc lv (.inr (.inr (some 0)) :: st) (xw w h sam blk lost ogr came sums sqs mrk que qd) := q_getG (ci := 0) (f := 2) ok rfl inlX0 (by decide) fX0_count rfl rfl rfl hd kk
theorem xg_samples {x : q_X} {cc : ByteArray} {fr lo pc : Nat} {lv : List (Option q_V)} {st : List q_V} {w : Nat} {h : Nat} {sam : Nat → Nat} {blk : Nat → Bool} {lost : Int64} {ogr : Nat → Nat} {came : Nat → Int32} {sums : Nat → Int64} {sqs : Nat → Int64} {mrk : Nat → Bool} {que : Nat → Nat} {qd : Nat} (ok : q_ok x cc RX0 fr lo) (hd : decode cc pc = .ok (.getfield 23, 3)) (kk : q_W x (pc + 3) lv (.inr (.inr (some 1)) :: st) (xw w h sam blk lost ogr came sums sqs mrk que qd)) : q_W x pc lv (.inr (.inr (some 0)) :: st) (xw w h sam blk lost ogr came sums sqs mrk que qd) := q_getG (ci := 0) (f := 3) ok rfl inlX0 (by decide) fX0_samples rfl rfl rfl hd kk
theorem xg_black {x : q_X} {cc : ByteArray} {fr lo pc : Nat} {lv : List (Option q_V)} {st : List q_V} {w : Nat} {h : Nat} {sam : Nat → Nat} {blk : Nat → Bool} {lost : Int64} {ogr : Nat → Nat} {came : Nat → Int32} {sums : Nat → Int64} {sqs : Nat → Int64} {mrk : Nat → Bool} {que : Nat → Nat} {qd : Nat} (ok : q_ok x cc RX0 fr lo) (hd : decode cc pc = .ok (.getfield 27, 3)) (kk : q_W x (pc + 3) lv (.inr (.inr (some 2)) :: st) (xw w h sam blk lost ogr came sums sqs mrk que qd)) : q_W x pc lv (.inr (.inr (some 0)) :: st) (xw w h sam blk lost ogr came sums sqs mrk que qd) := q_getG (ci := 0) (f := 4) ok rfl inlX0 (by decide) fX0_black rfl rfl rfl hd kk
theorem xg_lost {x : q_X} {cc : ByteArray} {fr lo pc : Nat} {lv : List (Option q_V)} {st : List q_V} {w : Nat} {h : Nat} {sam : Nat → Nat} {blk : Nat → Bool} {lost : Int64} {ogr : Nat → Nat} {came : Nat → Int32} {sums : Nat → Int64} {sqs : Nat → Int64} {mrk : Nat → Bool} {que : Nat → Nat} {qd : Nat} (ok : q_ok x cc RX0 fr lo) (hd : decode cc pc = .ok (.getfield 101, 3)) (kk : q_W x (pc + 3) lv (.inr (.inl lost) :: st) (xw w h sam blk lost ogr came sums sqs mrk que qd)) : q_W x pc lv (.inr (.inr (some 0)) :: st) (xw w h sam blk lost ogr came sums sqs mrk que qd) := q_getG (ci := 0) (f := 5) ok rfl inlX0 (by decide) fX0_lost rfl rfl rfl hd kk
theorem xg_ofGrey {x : q_X} {cc : ByteArray} {fr lo pc : Nat} {lv : List (Option q_V)} {st : List q_V} {w : Nat} {h : Nat} {sam : Nat → Nat} {blk : Nat → Bool} {lost : Int64} {ogr : Nat → Nat} {came : Nat → Int32} {sums : Nat → Int64} {sqs : Nat → Int64} {mrk : Nat → Bool} {que : Nat → Nat} {qd : Nat} (ok : q_ok x cc RX0 fr lo) (hd : decode cc pc = .ok (.getfield 31, 3)) (kk : q_W x (pc + 3) lv (.inr (.inr (some 3)) :: st) (xw w h sam blk lost ogr came sums sqs mrk que qd)) : q_W x pc lv (.inr (.inr (some 0)) :: st) (xw w h sam blk lost ogr came sums sqs mrk que qd) := q_getG (ci := 0) (f := 6) ok rfl inlX0 (by decide) fX0_ofGrey rfl rfl rfl hd kk
theorem xg_came {x : q_X} {cc : ByteArray} {fr lo pc : Nat} {lv : List (Option q_V)} {st : List q_V} {w : Nat} {h : Nat} {sam : Nat → Nat} {blk : Nat → Bool} {lost : Int64} {ogr : Nat → Nat} {came : Nat → Int32} {sums : Nat → Int64} {sqs : Nat → Int64} {mrk : Nat → Bool} {que : Nat → Nat} {qd : Nat} (ok : q_ok x cc RX0 fr lo) (hd : decode cc pc = .ok (.getfield 34, 3)) (kk : q_W x (pc + 3) lv (.inr (.inr (some 4)) :: st) (xw w h sam blk lost ogr came sums sqs mrk que qd)) : q_W x pc lv (.inr (.inr (some 0)) :: st) (xw w h sam blk lost ogr came sums sqs mrk que qd) := q_getG (ci := 0) (f := 7) ok rfl inlX0 (by decide) fX0_came rfl rfl rfl hd kk
theorem xg_sums {x : q_X} {cc : ByteArray} {fr lo pc : Nat} {lv : List (Option q_V)} {st : List q_V} {w : Nat} {h : Nat} {sam : Nat → Nat} {blk : Nat → Bool} {lost : Int64} {ogr : Nat → Nat} {came : Nat → Int32} {sums : Nat → Int64} {sqs : Nat → Int64} {mrk : Nat → Bool} {que : Nat → Nat} {qd : Nat} (ok : q_ok x cc RX0 fr lo) (hd : decode cc pc = .ok (.getfield 37, 3)) (kk : q_W x (pc + 3) lv (.inr (.inr (some 5)) :: st) (xw w h sam blk lost ogr came sums sqs mrk que qd)) : q_W x pc lv (.inr (.inr (some 0)) :: st) (xw w h sam blk lost ogr came sums sqs mrk que qd) := q_getG (ci := 0) (f := 8) ok rfl inlX0 (by decide) fX0_sums rfl rfl rfl hd kk
theorem xg_squareSums {x : q_X} {cc : ByteArray} {fr lo pc : Nat} {lv : List (Option q_V)} {st : List q_V} {w : Nat} {h : Nat} {sam : Nat → Nat} {blk : Nat → Bool} {lost : Int64} {ogr : Nat → Nat} {came : Nat → Int32} {sums : Nat → Int64} {sqs : Nat → Int64} {mrk : Nat → Bool} {que : Nat → Nat} {qd : Nat} (ok : q_ok x cc RX0 fr lo) (hd : decode cc pc = .ok (.getfield 41, 3)) (kk : q_W x (pc + 3) lv (.inr (.inr (some 6)) :: st) (xw w h sam blk lost ogr came sums sqs mrk que qd)) : q_W x pc lv (.inr (.inr (some 0)) :: st) (xw w h sam blk lost ogr came sums sqs mrk que qd) := q_getG (ci := 0) (f := 9) ok rfl inlX0 (by decide) fX0_squareSums rfl rfl rfl hd kk
theorem xg_marked {x : q_X} {cc : ByteArray} {fr lo pc : Nat} {lv : List (Option q_V)} {st : List q_V} {w : Nat} {h : Nat} {sam : Nat → Nat} {blk : Nat → Bool} {lost : Int64} {ogr : Nat → Nat} {came : Nat → Int32} {sums : Nat → Int64} {sqs : Nat → Int64} {mrk : Nat → Bool} {que : Nat → Nat} {qd : Nat} (ok : q_ok x cc RX0 fr lo) (hd : decode cc pc = .ok (.getfield 44, 3)) (kk : q_W x (pc + 3) lv (.inr (.inr (some 7)) :: st) (xw w h sam blk lost ogr came sums sqs mrk que qd)) : q_W x pc lv (.inr (.inr (some 0)) :: st) (xw w h sam blk lost ogr came sums sqs mrk que qd) := q_getG (ci := 0) (f := 10) ok rfl inlX0 (by decide) fX0_marked rfl rfl rfl hd kk
theorem xg_queue {x : q_X} {cc : ByteArray} {fr lo pc : Nat} {lv : List (Option q_V)} {st : List q_V} {w : Nat} {h : Nat} {sam : Nat → Nat} {blk : Nat → Bool} {lost : Int64} {ogr : Nat → Nat} {came : Nat → Int32} {sums : Nat → Int64} {sqs : Nat → Int64} {mrk : Nat → Bool} {que : Nat → Nat} {qd : Nat} (ok : q_ok x cc RX0 fr lo) (hd : decode cc pc = .ok (.getfield 47, 3)) (kk : q_W x (pc + 3) lv (.inr (.inr (some 8)) :: st) (xw w h sam blk lost ogr came sums sqs mrk que qd)) : q_W x pc lv (.inr (.inr (some 0)) :: st) (xw w h sam blk lost ogr came sums sqs mrk que qd) := q_getG (ci := 0) (f := 11) ok rfl inlX0 (by decide) fX0_queue rfl rfl rfl hd kk
theorem xg_queued {x : q_X} {cc : ByteArray} {fr lo pc : Nat} {lv : List (Option q_V)} {st : List q_V} {w : Nat} {h : Nat} {sam : Nat → Nat} {blk : Nat → Bool} {lost : Int64} {ogr : Nat → Nat} {came : Nat → Int32} {sums : Nat → Int64} {sqs : Nat → Int64} {mrk : Nat → Bool} {que : Nat → Nat} {qd : Nat} (ok : q_ok x cc RX0 fr lo) (hd : decode cc pc = .ok (.getfield 121, 3)) (kk : q_W x (pc + 3) lv (.inl (nI qd) :: st) (xw w h sam blk lost ogr came sums sqs mrk que qd)) : q_W x pc lv (.inr (.inr (some 0)) :: st) (xw w h sam blk lost ogr came sums sqs mrk que qd) := q_getG (ci := 0) (f := 12) ok rfl inlX0 (by decide) fX0_queued rfl rfl rfl hd kk
theorem xp_lost {x : q_X} {cc : ByteArray} {fr lo pc : Nat} {lv : List (Option q_V)} {st : List q_V} {w : Nat} {h : Nat} {sam : Nat → Nat} {blk : Nat → Bool} {lost : Int64} {ogr : Nat → Nat} {came : Nat → Int32} {sums : Nat → Int64} {sqs : Nat → Int64} {mrk : Nat → Bool} {que : Nat → Nat} {qd : Nat} {v : Int64} (ok : q_ok x cc RX0 fr lo) (hd : decode cc pc = .ok (.putfield 101, 3)) (kk : q_W x (pc + 3) lv st (xw w h sam blk (v) ogr came sums sqs mrk que qd)) : q_W x pc lv (.inr (.inl v) :: .inr (.inr (some 0)) :: st) (xw w h sam blk lost ogr came sums sqs mrk que qd) := q_putlG (ci := 0) (f := 5) ok rfl inlX0 tyX0 tyX0_ok nmX0 (by decide) fX0_lost rfl rfl (by decide +kernel) rfl (by simp) hd kk
theorem xp_queued {x : q_X} {cc : ByteArray} {fr lo pc : Nat} {lv : List (Option q_V)} {st : List q_V} {w : Nat} {h : Nat} {sam : Nat → Nat} {blk : Nat → Bool} {lost : Int64} {ogr : Nat → Nat} {came : Nat → Int32} {sums : Nat → Int64} {sqs : Nat → Int64} {mrk : Nat → Bool} {que : Nat → Nat} {qd : Nat} {v : Nat} (ok : q_ok x cc RX0 fr lo) (hd : decode cc pc = .ok (.putfield 121, 3)) (kk : q_W x (pc + 3) lv st (xw w h sam blk lost ogr came sums sqs mrk que (v))) : q_W x pc lv (.inl (nI v) :: .inr (.inr (some 0)) :: st) (xw w h sam blk lost ogr came sums sqs mrk que qd) := q_putiG (ci := 0) (f := 12) ok rfl inlX0 tyX0 tyX0_ok nmX0 (by decide) fX0_queued rfl rfl (by decide +kernel) rfl (by simp) hd kk
theorem xl_sam {x : q_X} {cc : ByteArray} {own : String} {fr lo pc : Nat} {lv : List (Option q_V)} {st : List q_V} {w : Nat} {h : Nat} {sam : Nat → Nat} {blk : Nat → Bool} {lost : Int64} {ogr : Nat → Nat} {came : Nat → Int32} {sums : Nat → Int64} {sqs : Nat → Int64} {mrk : Nat → Bool} {que : Nat → Nat} {qd : Nat} {k : Nat} (g : q_g w h) (hk : k < w * h) (ok : q_ok x cc own fr lo) (hd : decode cc pc = .ok (.iaload, 1)) (kk : q_W x (pc + 1) lv (.inl (nI (sam k)) :: st) (xw w h sam blk lost ogr came sums sqs mrk que qd)) : q_W x pc lv (.inl (nI k) :: .inr (.inr (some 1)) :: st) (xw w h sam blk lost ogr came sums sqs mrk que qd) := by
  have h31 : k < 2 ^ 31 := (by have := q_gn g; omega)
  have e : (nI k).toNatClampNeg = k := nI_clamp h31
  refine q_iald ok (k := 1) rfl (vp_in_nI hk (by have := q_gn g; omega)) hd ?_
  rw [e]; exact kk
theorem xs_sam {x : q_X} {cc : ByteArray} {own : String} {fr lo pc : Nat} {lv : List (Option q_V)} {st : List q_V} {w : Nat} {h : Nat} {sam : Nat → Nat} {blk : Nat → Bool} {lost : Int64} {ogr : Nat → Nat} {came : Nat → Int32} {sums : Nat → Int64} {sqs : Nat → Int64} {mrk : Nat → Bool} {que : Nat → Nat} {qd : Nat} {k : Nat} {v : Nat} (g : q_g w h) (hk : k < w * h) (ok : q_ok x cc own fr lo) (hd : decode cc pc = .ok (.iastore, 1)) (kk : q_W x (pc + 1) lv st (xw w h (va_up sam k v) blk lost ogr came sums sqs mrk que qd)) : q_W x pc lv (.inl (nI v) :: .inl (nI k) :: .inr (.inr (some 1)) :: st) (xw w h sam blk lost ogr came sums sqs mrk que qd) := by
  have h31 : k < 2 ^ 31 := (by have := q_gn g; omega)
  refine q_iast ok (k := 1) rfl (vp_in_nI hk (by have := q_gn g; omega)) hd ?_
  rw [q_updN sam k v h31]; exact kk
theorem xl_blk {x : q_X} {cc : ByteArray} {own : String} {fr lo pc : Nat} {lv : List (Option q_V)} {st : List q_V} {w : Nat} {h : Nat} {sam : Nat → Nat} {blk : Nat → Bool} {lost : Int64} {ogr : Nat → Nat} {came : Nat → Int32} {sums : Nat → Int64} {sqs : Nat → Int64} {mrk : Nat → Bool} {que : Nat → Nat} {qd : Nat} {k : Nat} (g : q_g w h) (hk : k < w * h) (ok : q_ok x cc own fr lo) (hd : decode cc pc = .ok (.baload, 1)) (kk : q_W x (pc + 1) lv (.inl (bI (blk k)) :: st) (xw w h sam blk lost ogr came sums sqs mrk que qd)) : q_W x pc lv (.inl (nI k) :: .inr (.inr (some 2)) :: st) (xw w h sam blk lost ogr came sums sqs mrk que qd) := by
  have h31 : k < 2 ^ 31 := (by have := q_gn g; omega)
  have e : (nI k).toNatClampNeg = k := nI_clamp h31
  refine q_zald ok (k := 2) rfl (vp_in_nI hk (by have := q_gn g; omega)) hd ?_
  rw [e]; exact kk
theorem xs_blk {x : q_X} {cc : ByteArray} {own : String} {fr lo pc : Nat} {lv : List (Option q_V)} {st : List q_V} {w : Nat} {h : Nat} {sam : Nat → Nat} {blk : Nat → Bool} {lost : Int64} {ogr : Nat → Nat} {came : Nat → Int32} {sums : Nat → Int64} {sqs : Nat → Int64} {mrk : Nat → Bool} {que : Nat → Nat} {qd : Nat} {k : Nat} {v : Bool} (g : q_g w h) (hk : k < w * h) (ok : q_ok x cc own fr lo) (hd : decode cc pc = .ok (.bastore, 1)) (kk : q_W x (pc + 1) lv st (xw w h sam (va_up blk k v) lost ogr came sums sqs mrk que qd)) : q_W x pc lv (.inl (bI v) :: .inl (nI k) :: .inr (.inr (some 2)) :: st) (xw w h sam blk lost ogr came sums sqs mrk que qd) := by
  have h31 : k < 2 ^ 31 := (by have := q_gn g; omega)
  refine q_zast ok (k := 2) rfl (vp_in_nI hk (by have := q_gn g; omega)) hd ?_
  rw [q_updB blk k v h31]; exact kk
theorem xl_ogr {x : q_X} {cc : ByteArray} {own : String} {fr lo pc : Nat} {lv : List (Option q_V)} {st : List q_V} {w : Nat} {h : Nat} {sam : Nat → Nat} {blk : Nat → Bool} {lost : Int64} {ogr : Nat → Nat} {came : Nat → Int32} {sums : Nat → Int64} {sqs : Nat → Int64} {mrk : Nat → Bool} {que : Nat → Nat} {qd : Nat} {k : Nat} (g : q_g w h) (hk : k < 256) (ok : q_ok x cc own fr lo) (hd : decode cc pc = .ok (.iaload, 1)) (kk : q_W x (pc + 1) lv (.inl (nI (ogr k)) :: st) (xw w h sam blk lost ogr came sums sqs mrk que qd)) : q_W x pc lv (.inl (nI k) :: .inr (.inr (some 3)) :: st) (xw w h sam blk lost ogr came sums sqs mrk que qd) := by
  have h31 : k < 2 ^ 31 := (by omega)
  have e : (nI k).toNatClampNeg = k := nI_clamp h31
  refine q_iald ok (k := 3) rfl (vp_in_nI hk (by omega)) hd ?_
  rw [e]; exact kk
theorem xs_ogr {x : q_X} {cc : ByteArray} {own : String} {fr lo pc : Nat} {lv : List (Option q_V)} {st : List q_V} {w : Nat} {h : Nat} {sam : Nat → Nat} {blk : Nat → Bool} {lost : Int64} {ogr : Nat → Nat} {came : Nat → Int32} {sums : Nat → Int64} {sqs : Nat → Int64} {mrk : Nat → Bool} {que : Nat → Nat} {qd : Nat} {k : Nat} {v : Nat} (g : q_g w h) (hk : k < 256) (ok : q_ok x cc own fr lo) (hd : decode cc pc = .ok (.iastore, 1)) (kk : q_W x (pc + 1) lv st (xw w h sam blk lost (va_up ogr k v) came sums sqs mrk que qd)) : q_W x pc lv (.inl (nI v) :: .inl (nI k) :: .inr (.inr (some 3)) :: st) (xw w h sam blk lost ogr came sums sqs mrk que qd) := by
  have h31 : k < 2 ^ 31 := (by omega)
  refine q_iast ok (k := 3) rfl (vp_in_nI hk (by omega)) hd ?_
  rw [q_updN ogr k v h31]; exact kk
theorem xl_came {x : q_X} {cc : ByteArray} {own : String} {fr lo pc : Nat} {lv : List (Option q_V)} {st : List q_V} {w : Nat} {h : Nat} {sam : Nat → Nat} {blk : Nat → Bool} {lost : Int64} {ogr : Nat → Nat} {came : Nat → Int32} {sums : Nat → Int64} {sqs : Nat → Int64} {mrk : Nat → Bool} {que : Nat → Nat} {qd : Nat} {k : Nat} (g : q_g w h) (hk : k < w * h) (ok : q_ok x cc own fr lo) (hd : decode cc pc = .ok (.iaload, 1)) (kk : q_W x (pc + 1) lv (.inl (came k) :: st) (xw w h sam blk lost ogr came sums sqs mrk que qd)) : q_W x pc lv (.inl (nI k) :: .inr (.inr (some 4)) :: st) (xw w h sam blk lost ogr came sums sqs mrk que qd) := by
  have h31 : k < 2 ^ 31 := (by have := q_gn g; omega)
  have e : (nI k).toNatClampNeg = k := nI_clamp h31
  refine q_iald ok (k := 4) rfl (vp_in_nI hk (by have := q_gn g; omega)) hd ?_
  rw [e]; exact kk
theorem xs_came {x : q_X} {cc : ByteArray} {own : String} {fr lo pc : Nat} {lv : List (Option q_V)} {st : List q_V} {w : Nat} {h : Nat} {sam : Nat → Nat} {blk : Nat → Bool} {lost : Int64} {ogr : Nat → Nat} {came : Nat → Int32} {sums : Nat → Int64} {sqs : Nat → Int64} {mrk : Nat → Bool} {que : Nat → Nat} {qd : Nat} {k : Nat} {v : Int32} (g : q_g w h) (hk : k < w * h) (ok : q_ok x cc own fr lo) (hd : decode cc pc = .ok (.iastore, 1)) (kk : q_W x (pc + 1) lv st (xw w h sam blk lost ogr (va_up came k v) sums sqs mrk que qd)) : q_W x pc lv (.inl v :: .inl (nI k) :: .inr (.inr (some 4)) :: st) (xw w h sam blk lost ogr came sums sqs mrk que qd) := by
  have h31 : k < 2 ^ 31 := (by have := q_gn g; omega)
  refine q_iast ok (k := 4) rfl (vp_in_nI hk (by have := q_gn g; omega)) hd ?_
  rw [q_updI came k v h31]; exact kk
theorem xl_sums {x : q_X} {cc : ByteArray} {own : String} {fr lo pc : Nat} {lv : List (Option q_V)} {st : List q_V} {w : Nat} {h : Nat} {sam : Nat → Nat} {blk : Nat → Bool} {lost : Int64} {ogr : Nat → Nat} {came : Nat → Int32} {sums : Nat → Int64} {sqs : Nat → Int64} {mrk : Nat → Bool} {que : Nat → Nat} {qd : Nat} {k : Nat} (g : q_g w h) (hk : k < (w + 1) * (h + 1)) (ok : q_ok x cc own fr lo) (hd : decode cc pc = .ok (.laload, 1)) (kk : q_W x (pc + 1) lv (.inr (.inl (sums k)) :: st) (xw w h sam blk lost ogr came sums sqs mrk que qd)) : q_W x pc lv (.inl (nI k) :: .inr (.inr (some 5)) :: st) (xw w h sam blk lost ogr came sums sqs mrk que qd) := by
  have h31 : k < 2 ^ 31 := (by have := q_gm g; omega)
  have e : (nI k).toNatClampNeg = k := nI_clamp h31
  refine q_lald ok (k := 5) rfl (vp_in_nI hk (by have := q_gm g; omega)) hd ?_
  rw [e]; exact kk
theorem xs_sums {x : q_X} {cc : ByteArray} {own : String} {fr lo pc : Nat} {lv : List (Option q_V)} {st : List q_V} {w : Nat} {h : Nat} {sam : Nat → Nat} {blk : Nat → Bool} {lost : Int64} {ogr : Nat → Nat} {came : Nat → Int32} {sums : Nat → Int64} {sqs : Nat → Int64} {mrk : Nat → Bool} {que : Nat → Nat} {qd : Nat} {k : Nat} {v : Int64} (g : q_g w h) (hk : k < (w + 1) * (h + 1)) (ok : q_ok x cc own fr lo) (hd : decode cc pc = .ok (.lastore, 1)) (kk : q_W x (pc + 1) lv st (xw w h sam blk lost ogr came (va_up sums k v) sqs mrk que qd)) : q_W x pc lv (.inr (.inl v) :: .inl (nI k) :: .inr (.inr (some 5)) :: st) (xw w h sam blk lost ogr came sums sqs mrk que qd) := by
  have h31 : k < 2 ^ 31 := (by have := q_gm g; omega)
  refine q_last ok (k := 5) rfl (vp_in_nI hk (by have := q_gm g; omega)) hd ?_
  rw [q_updL sums k v h31]; exact kk
theorem xl_sqs {x : q_X} {cc : ByteArray} {own : String} {fr lo pc : Nat} {lv : List (Option q_V)} {st : List q_V} {w : Nat} {h : Nat} {sam : Nat → Nat} {blk : Nat → Bool} {lost : Int64} {ogr : Nat → Nat} {came : Nat → Int32} {sums : Nat → Int64} {sqs : Nat → Int64} {mrk : Nat → Bool} {que : Nat → Nat} {qd : Nat} {k : Nat} (g : q_g w h) (hk : k < (w + 1) * (h + 1)) (ok : q_ok x cc own fr lo) (hd : decode cc pc = .ok (.laload, 1)) (kk : q_W x (pc + 1) lv (.inr (.inl (sqs k)) :: st) (xw w h sam blk lost ogr came sums sqs mrk que qd)) : q_W x pc lv (.inl (nI k) :: .inr (.inr (some 6)) :: st) (xw w h sam blk lost ogr came sums sqs mrk que qd) := by
  have h31 : k < 2 ^ 31 := (by have := q_gm g; omega)
  have e : (nI k).toNatClampNeg = k := nI_clamp h31
  refine q_lald ok (k := 6) rfl (vp_in_nI hk (by have := q_gm g; omega)) hd ?_
  rw [e]; exact kk
theorem xs_sqs {x : q_X} {cc : ByteArray} {own : String} {fr lo pc : Nat} {lv : List (Option q_V)} {st : List q_V} {w : Nat} {h : Nat} {sam : Nat → Nat} {blk : Nat → Bool} {lost : Int64} {ogr : Nat → Nat} {came : Nat → Int32} {sums : Nat → Int64} {sqs : Nat → Int64} {mrk : Nat → Bool} {que : Nat → Nat} {qd : Nat} {k : Nat} {v : Int64} (g : q_g w h) (hk : k < (w + 1) * (h + 1)) (ok : q_ok x cc own fr lo) (hd : decode cc pc = .ok (.lastore, 1)) (kk : q_W x (pc + 1) lv st (xw w h sam blk lost ogr came sums (va_up sqs k v) mrk que qd)) : q_W x pc lv (.inr (.inl v) :: .inl (nI k) :: .inr (.inr (some 6)) :: st) (xw w h sam blk lost ogr came sums sqs mrk que qd) := by
  have h31 : k < 2 ^ 31 := (by have := q_gm g; omega)
  refine q_last ok (k := 6) rfl (vp_in_nI hk (by have := q_gm g; omega)) hd ?_
  rw [q_updL sqs k v h31]; exact kk
theorem xl_mrk {x : q_X} {cc : ByteArray} {own : String} {fr lo pc : Nat} {lv : List (Option q_V)} {st : List q_V} {w : Nat} {h : Nat} {sam : Nat → Nat} {blk : Nat → Bool} {lost : Int64} {ogr : Nat → Nat} {came : Nat → Int32} {sums : Nat → Int64} {sqs : Nat → Int64} {mrk : Nat → Bool} {que : Nat → Nat} {qd : Nat} {k : Nat} (g : q_g w h) (hk : k < w * h) (ok : q_ok x cc own fr lo) (hd : decode cc pc = .ok (.baload, 1)) (kk : q_W x (pc + 1) lv (.inl (bI (mrk k)) :: st) (xw w h sam blk lost ogr came sums sqs mrk que qd)) : q_W x pc lv (.inl (nI k) :: .inr (.inr (some 7)) :: st) (xw w h sam blk lost ogr came sums sqs mrk que qd) := by
  have h31 : k < 2 ^ 31 := (by have := q_gn g; omega)
  have e : (nI k).toNatClampNeg = k := nI_clamp h31
  refine q_zald ok (k := 7) rfl (vp_in_nI hk (by have := q_gn g; omega)) hd ?_
  rw [e]; exact kk
theorem xs_mrk {x : q_X} {cc : ByteArray} {own : String} {fr lo pc : Nat} {lv : List (Option q_V)} {st : List q_V} {w : Nat} {h : Nat} {sam : Nat → Nat} {blk : Nat → Bool} {lost : Int64} {ogr : Nat → Nat} {came : Nat → Int32} {sums : Nat → Int64} {sqs : Nat → Int64} {mrk : Nat → Bool} {que : Nat → Nat} {qd : Nat} {k : Nat} {v : Bool} (g : q_g w h) (hk : k < w * h) (ok : q_ok x cc own fr lo) (hd : decode cc pc = .ok (.bastore, 1)) (kk : q_W x (pc + 1) lv st (xw w h sam blk lost ogr came sums sqs (va_up mrk k v) que qd)) : q_W x pc lv (.inl (bI v) :: .inl (nI k) :: .inr (.inr (some 7)) :: st) (xw w h sam blk lost ogr came sums sqs mrk que qd) := by
  have h31 : k < 2 ^ 31 := (by have := q_gn g; omega)
  refine q_zast ok (k := 7) rfl (vp_in_nI hk (by have := q_gn g; omega)) hd ?_
  rw [q_updB mrk k v h31]; exact kk
theorem xl_que {x : q_X} {cc : ByteArray} {own : String} {fr lo pc : Nat} {lv : List (Option q_V)} {st : List q_V} {w : Nat} {h : Nat} {sam : Nat → Nat} {blk : Nat → Bool} {lost : Int64} {ogr : Nat → Nat} {came : Nat → Int32} {sums : Nat → Int64} {sqs : Nat → Int64} {mrk : Nat → Bool} {que : Nat → Nat} {qd : Nat} {k : Nat} (g : q_g w h) (hk : k < w * h) (ok : q_ok x cc own fr lo) (hd : decode cc pc = .ok (.iaload, 1)) (kk : q_W x (pc + 1) lv (.inl (nI (que k)) :: st) (xw w h sam blk lost ogr came sums sqs mrk que qd)) : q_W x pc lv (.inl (nI k) :: .inr (.inr (some 8)) :: st) (xw w h sam blk lost ogr came sums sqs mrk que qd) := by
  have h31 : k < 2 ^ 31 := (by have := q_gn g; omega)
  have e : (nI k).toNatClampNeg = k := nI_clamp h31
  refine q_iald ok (k := 8) rfl (vp_in_nI hk (by have := q_gn g; omega)) hd ?_
  rw [e]; exact kk
theorem xs_que {x : q_X} {cc : ByteArray} {own : String} {fr lo pc : Nat} {lv : List (Option q_V)} {st : List q_V} {w : Nat} {h : Nat} {sam : Nat → Nat} {blk : Nat → Bool} {lost : Int64} {ogr : Nat → Nat} {came : Nat → Int32} {sums : Nat → Int64} {sqs : Nat → Int64} {mrk : Nat → Bool} {que : Nat → Nat} {qd : Nat} {k : Nat} {v : Nat} (g : q_g w h) (hk : k < w * h) (ok : q_ok x cc own fr lo) (hd : decode cc pc = .ok (.iastore, 1)) (kk : q_W x (pc + 1) lv st (xw w h sam blk lost ogr came sums sqs mrk (va_up que k v) qd)) : q_W x pc lv (.inl (nI v) :: .inl (nI k) :: .inr (.inr (some 8)) :: st) (xw w h sam blk lost ogr came sums sqs mrk que qd) := by
  have h31 : k < 2 ^ 31 := (by have := q_gn g; omega)
  refine q_iast ok (k := 8) rfl (vp_in_nI hk (by have := q_gn g; omega)) hd ?_
  rw [q_updN que k v h31]; exact kk
theorem xn_sam {x : q_X} {cc : ByteArray} {own : String} {fr lo pc : Nat} {lv : List (Option q_V)} {st : List q_V} {w : Nat} {h : Nat} {sam : Nat → Nat} {blk : Nat → Bool} {lost : Int64} {ogr : Nat → Nat} {came : Nat → Int32} {sums : Nat → Int64} {sqs : Nat → Int64} {mrk : Nat → Bool} {que : Nat → Nat} {qd : Nat} (ok : q_ok x cc own fr lo) (hd : decode cc pc = .ok (.arraylength, 1)) (kk : q_W x (pc + 1) lv (.inl (nI (w * h)) :: st) (xw w h sam blk lost ogr came sums sqs mrk que qd)) : q_W x pc lv (.inr (.inr (some 1)) :: st) (xw w h sam blk lost ogr came sums sqs mrk que qd) := q_alen ok (k := 1) rfl (by decide : 0 < 3) hd kk
theorem xn_blk {x : q_X} {cc : ByteArray} {own : String} {fr lo pc : Nat} {lv : List (Option q_V)} {st : List q_V} {w : Nat} {h : Nat} {sam : Nat → Nat} {blk : Nat → Bool} {lost : Int64} {ogr : Nat → Nat} {came : Nat → Int32} {sums : Nat → Int64} {sqs : Nat → Int64} {mrk : Nat → Bool} {que : Nat → Nat} {qd : Nat} (ok : q_ok x cc own fr lo) (hd : decode cc pc = .ok (.arraylength, 1)) (kk : q_W x (pc + 1) lv (.inl (nI (w * h)) :: st) (xw w h sam blk lost ogr came sums sqs mrk que qd)) : q_W x pc lv (.inr (.inr (some 2)) :: st) (xw w h sam blk lost ogr came sums sqs mrk que qd) := q_alen ok (k := 2) rfl (by decide : 2 < 3) hd kk
theorem xn_ogr {x : q_X} {cc : ByteArray} {own : String} {fr lo pc : Nat} {lv : List (Option q_V)} {st : List q_V} {w : Nat} {h : Nat} {sam : Nat → Nat} {blk : Nat → Bool} {lost : Int64} {ogr : Nat → Nat} {came : Nat → Int32} {sums : Nat → Int64} {sqs : Nat → Int64} {mrk : Nat → Bool} {que : Nat → Nat} {qd : Nat} (ok : q_ok x cc own fr lo) (hd : decode cc pc = .ok (.arraylength, 1)) (kk : q_W x (pc + 1) lv (.inl (nI (256)) :: st) (xw w h sam blk lost ogr came sums sqs mrk que qd)) : q_W x pc lv (.inr (.inr (some 3)) :: st) (xw w h sam blk lost ogr came sums sqs mrk que qd) := q_alen ok (k := 3) rfl (by decide : 0 < 3) hd kk
theorem xn_came {x : q_X} {cc : ByteArray} {own : String} {fr lo pc : Nat} {lv : List (Option q_V)} {st : List q_V} {w : Nat} {h : Nat} {sam : Nat → Nat} {blk : Nat → Bool} {lost : Int64} {ogr : Nat → Nat} {came : Nat → Int32} {sums : Nat → Int64} {sqs : Nat → Int64} {mrk : Nat → Bool} {que : Nat → Nat} {qd : Nat} (ok : q_ok x cc own fr lo) (hd : decode cc pc = .ok (.arraylength, 1)) (kk : q_W x (pc + 1) lv (.inl (nI (w * h)) :: st) (xw w h sam blk lost ogr came sums sqs mrk que qd)) : q_W x pc lv (.inr (.inr (some 4)) :: st) (xw w h sam blk lost ogr came sums sqs mrk que qd) := q_alen ok (k := 4) rfl (by decide : 0 < 3) hd kk
theorem xn_sums {x : q_X} {cc : ByteArray} {own : String} {fr lo pc : Nat} {lv : List (Option q_V)} {st : List q_V} {w : Nat} {h : Nat} {sam : Nat → Nat} {blk : Nat → Bool} {lost : Int64} {ogr : Nat → Nat} {came : Nat → Int32} {sums : Nat → Int64} {sqs : Nat → Int64} {mrk : Nat → Bool} {que : Nat → Nat} {qd : Nat} (ok : q_ok x cc own fr lo) (hd : decode cc pc = .ok (.arraylength, 1)) (kk : q_W x (pc + 1) lv (.inl (nI ((w + 1) * (h + 1))) :: st) (xw w h sam blk lost ogr came sums sqs mrk que qd)) : q_W x pc lv (.inr (.inr (some 5)) :: st) (xw w h sam blk lost ogr came sums sqs mrk que qd) := q_alen ok (k := 5) rfl (by decide : 1 < 3) hd kk
theorem xn_sqs {x : q_X} {cc : ByteArray} {own : String} {fr lo pc : Nat} {lv : List (Option q_V)} {st : List q_V} {w : Nat} {h : Nat} {sam : Nat → Nat} {blk : Nat → Bool} {lost : Int64} {ogr : Nat → Nat} {came : Nat → Int32} {sums : Nat → Int64} {sqs : Nat → Int64} {mrk : Nat → Bool} {que : Nat → Nat} {qd : Nat} (ok : q_ok x cc own fr lo) (hd : decode cc pc = .ok (.arraylength, 1)) (kk : q_W x (pc + 1) lv (.inl (nI ((w + 1) * (h + 1))) :: st) (xw w h sam blk lost ogr came sums sqs mrk que qd)) : q_W x pc lv (.inr (.inr (some 6)) :: st) (xw w h sam blk lost ogr came sums sqs mrk que qd) := q_alen ok (k := 6) rfl (by decide : 1 < 3) hd kk
theorem xn_mrk {x : q_X} {cc : ByteArray} {own : String} {fr lo pc : Nat} {lv : List (Option q_V)} {st : List q_V} {w : Nat} {h : Nat} {sam : Nat → Nat} {blk : Nat → Bool} {lost : Int64} {ogr : Nat → Nat} {came : Nat → Int32} {sums : Nat → Int64} {sqs : Nat → Int64} {mrk : Nat → Bool} {que : Nat → Nat} {qd : Nat} (ok : q_ok x cc own fr lo) (hd : decode cc pc = .ok (.arraylength, 1)) (kk : q_W x (pc + 1) lv (.inl (nI (w * h)) :: st) (xw w h sam blk lost ogr came sums sqs mrk que qd)) : q_W x pc lv (.inr (.inr (some 7)) :: st) (xw w h sam blk lost ogr came sums sqs mrk que qd) := q_alen ok (k := 7) rfl (by decide : 2 < 3) hd kk
theorem xn_que {x : q_X} {cc : ByteArray} {own : String} {fr lo pc : Nat} {lv : List (Option q_V)} {st : List q_V} {w : Nat} {h : Nat} {sam : Nat → Nat} {blk : Nat → Bool} {lost : Int64} {ogr : Nat → Nat} {came : Nat → Int32} {sums : Nat → Int64} {sqs : Nat → Int64} {mrk : Nat → Bool} {que : Nat → Nat} {qd : Nat} (ok : q_ok x cc own fr lo) (hd : decode cc pc = .ok (.arraylength, 1)) (kk : q_W x (pc + 1) lv (.inl (nI (w * h)) :: st) (xw w h sam blk lost ogr came sums sqs mrk que qd)) : q_W x pc lv (.inr (.inr (some 8)) :: st) (xw w h sam blk lost ogr came sums sqs mrk que qd) := q_alen ok (k := 8) rfl (by decide : 0 < 3) hd kk
theorem mg_thrown {x : q_X} {cc : ByteArray} {fr lo pc : Nat} {lv : List (Option q_V)} {st : List q_V} {w : Nat} {h : Nat} {thr : Nat} {sam : Nat → Nat} {blk : Nat → Bool} {nxt : Nat → Bool} {came : Nat → Int32} {part : Nat → Int32} {rst : Int64} (ok : q_ok x cc RX1 fr lo) (hd : decode cc pc = .ok (.getfield 33, 3)) (kk : q_W x (pc + 3) lv (.inl (nI thr) :: st) (mw w h thr sam blk nxt came part rst)) : q_W x pc lv (.inr (.inr (some 0)) :: st) (mw w h thr sam blk nxt came part rst) := q_getG (ci := 1) (f := 0) ok rfl inlX1 (by decide) fX1_thrown rfl rfl rfl hd kk
theorem mg_width {x : q_X} {cc : ByteArray} {fr lo pc : Nat} {lv : List (Option q_V)} {st : List q_V} {w : Nat} {h : Nat} {thr : Nat} {sam : Nat → Nat} {blk : Nat → Bool} {nxt : Nat → Bool} {came : Nat → Int32} {part : Nat → Int32} {rst : Int64} (ok : q_ok x cc RX1 fr lo) (hd : decode cc pc = .ok (.getfield 26, 3)) (kk : q_W x (pc + 3) lv (.inl (nI w) :: st) (mw w h thr sam blk nxt came part rst)) : q_W x pc lv (.inr (.inr (some 0)) :: st) (mw w h thr sam blk nxt came part rst) := q_getG (ci := 1) (f := 1) ok rfl inlX1 (by decide) fX1_width rfl rfl rfl hd kk
theorem mg_height {x : q_X} {cc : ByteArray} {fr lo pc : Nat} {lv : List (Option q_V)} {st : List q_V} {w : Nat} {h : Nat} {thr : Nat} {sam : Nat → Nat} {blk : Nat → Bool} {nxt : Nat → Bool} {came : Nat → Int32} {part : Nat → Int32} {rst : Int64} (ok : q_ok x cc RX1 fr lo) (hd : decode cc pc = .ok (.getfield 30, 3)) (kk : q_W x (pc + 3) lv (.inl (nI h) :: st) (mw w h thr sam blk nxt came part rst)) : q_W x pc lv (.inr (.inr (some 0)) :: st) (mw w h thr sam blk nxt came part rst) := q_getG (ci := 1) (f := 2) ok rfl inlX1 (by decide) fX1_height rfl rfl rfl hd kk
theorem mg_samples {x : q_X} {cc : ByteArray} {fr lo pc : Nat} {lv : List (Option q_V)} {st : List q_V} {w : Nat} {h : Nat} {thr : Nat} {sam : Nat → Nat} {blk : Nat → Bool} {nxt : Nat → Bool} {came : Nat → Int32} {part : Nat → Int32} {rst : Int64} (ok : q_ok x cc RX1 fr lo) (hd : decode cc pc = .ok (.getfield 7, 3)) (kk : q_W x (pc + 3) lv (.inr (.inr (some 1)) :: st) (mw w h thr sam blk nxt came part rst)) : q_W x pc lv (.inr (.inr (some 0)) :: st) (mw w h thr sam blk nxt came part rst) := q_getG (ci := 1) (f := 3) ok rfl inlX1 (by decide) fX1_samples rfl rfl rfl hd kk
theorem mg_black {x : q_X} {cc : ByteArray} {fr lo pc : Nat} {lv : List (Option q_V)} {st : List q_V} {w : Nat} {h : Nat} {thr : Nat} {sam : Nat → Nat} {blk : Nat → Bool} {nxt : Nat → Bool} {came : Nat → Int32} {part : Nat → Int32} {rst : Int64} (ok : q_ok x cc RX1 fr lo) (hd : decode cc pc = .ok (.getfield 13, 3)) (kk : q_W x (pc + 3) lv (.inr (.inr (some 2)) :: st) (mw w h thr sam blk nxt came part rst)) : q_W x pc lv (.inr (.inr (some 0)) :: st) (mw w h thr sam blk nxt came part rst) := q_getG (ci := 1) (f := 4) ok rfl inlX1 (by decide) fX1_black rfl rfl rfl hd kk
theorem mg_next {x : q_X} {cc : ByteArray} {fr lo pc : Nat} {lv : List (Option q_V)} {st : List q_V} {w : Nat} {h : Nat} {thr : Nat} {sam : Nat → Nat} {blk : Nat → Bool} {nxt : Nat → Bool} {came : Nat → Int32} {part : Nat → Int32} {rst : Int64} (ok : q_ok x cc RX1 fr lo) (hd : decode cc pc = .ok (.getfield 17, 3)) (kk : q_W x (pc + 3) lv (.inr (.inr (some 3)) :: st) (mw w h thr sam blk nxt came part rst)) : q_W x pc lv (.inr (.inr (some 0)) :: st) (mw w h thr sam blk nxt came part rst) := q_getG (ci := 1) (f := 5) ok rfl inlX1 (by decide) fX1_next rfl rfl rfl hd kk
theorem mg_came {x : q_X} {cc : ByteArray} {fr lo pc : Nat} {lv : List (Option q_V)} {st : List q_V} {w : Nat} {h : Nat} {thr : Nat} {sam : Nat → Nat} {blk : Nat → Bool} {nxt : Nat → Bool} {came : Nat → Int32} {part : Nat → Int32} {rst : Int64} (ok : q_ok x cc RX1 fr lo) (hd : decode cc pc = .ok (.getfield 20, 3)) (kk : q_W x (pc + 3) lv (.inr (.inr (some 4)) :: st) (mw w h thr sam blk nxt came part rst)) : q_W x pc lv (.inr (.inr (some 0)) :: st) (mw w h thr sam blk nxt came part rst) := q_getG (ci := 1) (f := 6) ok rfl inlX1 (by decide) fX1_came rfl rfl rfl hd kk
theorem mg_part {x : q_X} {cc : ByteArray} {fr lo pc : Nat} {lv : List (Option q_V)} {st : List q_V} {w : Nat} {h : Nat} {thr : Nat} {sam : Nat → Nat} {blk : Nat → Bool} {nxt : Nat → Bool} {came : Nat → Int32} {part : Nat → Int32} {rst : Int64} (ok : q_ok x cc RX1 fr lo) (hd : decode cc pc = .ok (.getfield 23, 3)) (kk : q_W x (pc + 3) lv (.inr (.inr (some 5)) :: st) (mw w h thr sam blk nxt came part rst)) : q_W x pc lv (.inr (.inr (some 0)) :: st) (mw w h thr sam blk nxt came part rst) := q_getG (ci := 1) (f := 7) ok rfl inlX1 (by decide) fX1_part rfl rfl rfl hd kk
theorem mg_rest {x : q_X} {cc : ByteArray} {fr lo pc : Nat} {lv : List (Option q_V)} {st : List q_V} {w : Nat} {h : Nat} {thr : Nat} {sam : Nat → Nat} {blk : Nat → Bool} {nxt : Nat → Bool} {came : Nat → Int32} {part : Nat → Int32} {rst : Int64} (ok : q_ok x cc RX1 fr lo) (hd : decode cc pc = .ok (.getfield 55, 3)) (kk : q_W x (pc + 3) lv (.inr (.inl rst) :: st) (mw w h thr sam blk nxt came part rst)) : q_W x pc lv (.inr (.inr (some 0)) :: st) (mw w h thr sam blk nxt came part rst) := q_getG (ci := 1) (f := 8) ok rfl inlX1 (by decide) fX1_rest rfl rfl rfl hd kk
theorem mp_thrown {x : q_X} {cc : ByteArray} {fr lo pc : Nat} {lv : List (Option q_V)} {st : List q_V} {w : Nat} {h : Nat} {thr : Nat} {sam : Nat → Nat} {blk : Nat → Bool} {nxt : Nat → Bool} {came : Nat → Int32} {part : Nat → Int32} {rst : Int64} {v : Nat} (ok : q_ok x cc RX1 fr lo) (hd : decode cc pc = .ok (.putfield 33, 3)) (kk : q_W x (pc + 3) lv st (mw w h (v) sam blk nxt came part rst)) : q_W x pc lv (.inl (nI v) :: .inr (.inr (some 0)) :: st) (mw w h thr sam blk nxt came part rst) := q_putiG (ci := 1) (f := 0) ok rfl inlX1 tyX1 tyX1_ok nmX1 (by decide) fX1_thrown rfl rfl (by decide +kernel) rfl (by simp) hd kk
theorem mp_rest {x : q_X} {cc : ByteArray} {fr lo pc : Nat} {lv : List (Option q_V)} {st : List q_V} {w : Nat} {h : Nat} {thr : Nat} {sam : Nat → Nat} {blk : Nat → Bool} {nxt : Nat → Bool} {came : Nat → Int32} {part : Nat → Int32} {rst : Int64} {v : Int64} (ok : q_ok x cc RX1 fr lo) (hd : decode cc pc = .ok (.putfield 55, 3)) (kk : q_W x (pc + 3) lv st (mw w h thr sam blk nxt came part (v))) : q_W x pc lv (.inr (.inl v) :: .inr (.inr (some 0)) :: st) (mw w h thr sam blk nxt came part rst) := q_putlG (ci := 1) (f := 8) ok rfl inlX1 tyX1 tyX1_ok nmX1 (by decide) fX1_rest rfl rfl (by decide +kernel) rfl (by simp) hd kk
theorem ml_sam {x : q_X} {cc : ByteArray} {own : String} {fr lo pc : Nat} {lv : List (Option q_V)} {st : List q_V} {w : Nat} {h : Nat} {thr : Nat} {sam : Nat → Nat} {blk : Nat → Bool} {nxt : Nat → Bool} {came : Nat → Int32} {part : Nat → Int32} {rst : Int64} {k : Nat} (g : q_g w h) (hk : k < 256) (ok : q_ok x cc own fr lo) (hd : decode cc pc = .ok (.iaload, 1)) (kk : q_W x (pc + 1) lv (.inl (nI (sam k)) :: st) (mw w h thr sam blk nxt came part rst)) : q_W x pc lv (.inl (nI k) :: .inr (.inr (some 1)) :: st) (mw w h thr sam blk nxt came part rst) := by
  have h31 : k < 2 ^ 31 := (by omega)
  have e : (nI k).toNatClampNeg = k := nI_clamp h31
  refine q_iald ok (k := 1) rfl (vp_in_nI hk (by omega)) hd ?_
  rw [e]; exact kk
theorem ms_sam {x : q_X} {cc : ByteArray} {own : String} {fr lo pc : Nat} {lv : List (Option q_V)} {st : List q_V} {w : Nat} {h : Nat} {thr : Nat} {sam : Nat → Nat} {blk : Nat → Bool} {nxt : Nat → Bool} {came : Nat → Int32} {part : Nat → Int32} {rst : Int64} {k : Nat} {v : Nat} (g : q_g w h) (hk : k < 256) (ok : q_ok x cc own fr lo) (hd : decode cc pc = .ok (.iastore, 1)) (kk : q_W x (pc + 1) lv st (mw w h thr (va_up sam k v) blk nxt came part rst)) : q_W x pc lv (.inl (nI v) :: .inl (nI k) :: .inr (.inr (some 1)) :: st) (mw w h thr sam blk nxt came part rst) := by
  have h31 : k < 2 ^ 31 := (by omega)
  refine q_iast ok (k := 1) rfl (vp_in_nI hk (by omega)) hd ?_
  rw [q_updN sam k v h31]; exact kk
theorem ml_blk {x : q_X} {cc : ByteArray} {own : String} {fr lo pc : Nat} {lv : List (Option q_V)} {st : List q_V} {w : Nat} {h : Nat} {thr : Nat} {sam : Nat → Nat} {blk : Nat → Bool} {nxt : Nat → Bool} {came : Nat → Int32} {part : Nat → Int32} {rst : Int64} {k : Nat} (g : q_g w h) (hk : k < 256) (ok : q_ok x cc own fr lo) (hd : decode cc pc = .ok (.baload, 1)) (kk : q_W x (pc + 1) lv (.inl (bI (blk k)) :: st) (mw w h thr sam blk nxt came part rst)) : q_W x pc lv (.inl (nI k) :: .inr (.inr (some 2)) :: st) (mw w h thr sam blk nxt came part rst) := by
  have h31 : k < 2 ^ 31 := (by omega)
  have e : (nI k).toNatClampNeg = k := nI_clamp h31
  refine q_zald ok (k := 2) rfl (vp_in_nI hk (by omega)) hd ?_
  rw [e]; exact kk
theorem ms_blk {x : q_X} {cc : ByteArray} {own : String} {fr lo pc : Nat} {lv : List (Option q_V)} {st : List q_V} {w : Nat} {h : Nat} {thr : Nat} {sam : Nat → Nat} {blk : Nat → Bool} {nxt : Nat → Bool} {came : Nat → Int32} {part : Nat → Int32} {rst : Int64} {k : Nat} {v : Bool} (g : q_g w h) (hk : k < 256) (ok : q_ok x cc own fr lo) (hd : decode cc pc = .ok (.bastore, 1)) (kk : q_W x (pc + 1) lv st (mw w h thr sam (va_up blk k v) nxt came part rst)) : q_W x pc lv (.inl (bI v) :: .inl (nI k) :: .inr (.inr (some 2)) :: st) (mw w h thr sam blk nxt came part rst) := by
  have h31 : k < 2 ^ 31 := (by omega)
  refine q_zast ok (k := 2) rfl (vp_in_nI hk (by omega)) hd ?_
  rw [q_updB blk k v h31]; exact kk
theorem ml_nxt {x : q_X} {cc : ByteArray} {own : String} {fr lo pc : Nat} {lv : List (Option q_V)} {st : List q_V} {w : Nat} {h : Nat} {thr : Nat} {sam : Nat → Nat} {blk : Nat → Bool} {nxt : Nat → Bool} {came : Nat → Int32} {part : Nat → Int32} {rst : Int64} {k : Nat} (g : q_g w h) (hk : k < 256) (ok : q_ok x cc own fr lo) (hd : decode cc pc = .ok (.baload, 1)) (kk : q_W x (pc + 1) lv (.inl (bI (nxt k)) :: st) (mw w h thr sam blk nxt came part rst)) : q_W x pc lv (.inl (nI k) :: .inr (.inr (some 3)) :: st) (mw w h thr sam blk nxt came part rst) := by
  have h31 : k < 2 ^ 31 := (by omega)
  have e : (nI k).toNatClampNeg = k := nI_clamp h31
  refine q_zald ok (k := 3) rfl (vp_in_nI hk (by omega)) hd ?_
  rw [e]; exact kk
theorem ms_nxt {x : q_X} {cc : ByteArray} {own : String} {fr lo pc : Nat} {lv : List (Option q_V)} {st : List q_V} {w : Nat} {h : Nat} {thr : Nat} {sam : Nat → Nat} {blk : Nat → Bool} {nxt : Nat → Bool} {came : Nat → Int32} {part : Nat → Int32} {rst : Int64} {k : Nat} {v : Bool} (g : q_g w h) (hk : k < 256) (ok : q_ok x cc own fr lo) (hd : decode cc pc = .ok (.bastore, 1)) (kk : q_W x (pc + 1) lv st (mw w h thr sam blk (va_up nxt k v) came part rst)) : q_W x pc lv (.inl (bI v) :: .inl (nI k) :: .inr (.inr (some 3)) :: st) (mw w h thr sam blk nxt came part rst) := by
  have h31 : k < 2 ^ 31 := (by omega)
  refine q_zast ok (k := 3) rfl (vp_in_nI hk (by omega)) hd ?_
  rw [q_updB nxt k v h31]; exact kk
theorem ml_came {x : q_X} {cc : ByteArray} {own : String} {fr lo pc : Nat} {lv : List (Option q_V)} {st : List q_V} {w : Nat} {h : Nat} {thr : Nat} {sam : Nat → Nat} {blk : Nat → Bool} {nxt : Nat → Bool} {came : Nat → Int32} {part : Nat → Int32} {rst : Int64} {k : Nat} (g : q_g w h) (hk : k < 256) (ok : q_ok x cc own fr lo) (hd : decode cc pc = .ok (.iaload, 1)) (kk : q_W x (pc + 1) lv (.inl (came k) :: st) (mw w h thr sam blk nxt came part rst)) : q_W x pc lv (.inl (nI k) :: .inr (.inr (some 4)) :: st) (mw w h thr sam blk nxt came part rst) := by
  have h31 : k < 2 ^ 31 := (by omega)
  have e : (nI k).toNatClampNeg = k := nI_clamp h31
  refine q_iald ok (k := 4) rfl (vp_in_nI hk (by omega)) hd ?_
  rw [e]; exact kk
theorem ms_came {x : q_X} {cc : ByteArray} {own : String} {fr lo pc : Nat} {lv : List (Option q_V)} {st : List q_V} {w : Nat} {h : Nat} {thr : Nat} {sam : Nat → Nat} {blk : Nat → Bool} {nxt : Nat → Bool} {came : Nat → Int32} {part : Nat → Int32} {rst : Int64} {k : Nat} {v : Int32} (g : q_g w h) (hk : k < 256) (ok : q_ok x cc own fr lo) (hd : decode cc pc = .ok (.iastore, 1)) (kk : q_W x (pc + 1) lv st (mw w h thr sam blk nxt (va_up came k v) part rst)) : q_W x pc lv (.inl v :: .inl (nI k) :: .inr (.inr (some 4)) :: st) (mw w h thr sam blk nxt came part rst) := by
  have h31 : k < 2 ^ 31 := (by omega)
  refine q_iast ok (k := 4) rfl (vp_in_nI hk (by omega)) hd ?_
  rw [q_updI came k v h31]; exact kk
theorem ml_part {x : q_X} {cc : ByteArray} {own : String} {fr lo pc : Nat} {lv : List (Option q_V)} {st : List q_V} {w : Nat} {h : Nat} {thr : Nat} {sam : Nat → Nat} {blk : Nat → Bool} {nxt : Nat → Bool} {came : Nat → Int32} {part : Nat → Int32} {rst : Int64} {k : Nat} (g : q_g w h) (hk : k < 256) (ok : q_ok x cc own fr lo) (hd : decode cc pc = .ok (.iaload, 1)) (kk : q_W x (pc + 1) lv (.inl (part k) :: st) (mw w h thr sam blk nxt came part rst)) : q_W x pc lv (.inl (nI k) :: .inr (.inr (some 5)) :: st) (mw w h thr sam blk nxt came part rst) := by
  have h31 : k < 2 ^ 31 := (by omega)
  have e : (nI k).toNatClampNeg = k := nI_clamp h31
  refine q_iald ok (k := 5) rfl (vp_in_nI hk (by omega)) hd ?_
  rw [e]; exact kk
theorem ms_part {x : q_X} {cc : ByteArray} {own : String} {fr lo pc : Nat} {lv : List (Option q_V)} {st : List q_V} {w : Nat} {h : Nat} {thr : Nat} {sam : Nat → Nat} {blk : Nat → Bool} {nxt : Nat → Bool} {came : Nat → Int32} {part : Nat → Int32} {rst : Int64} {k : Nat} {v : Int32} (g : q_g w h) (hk : k < 256) (ok : q_ok x cc own fr lo) (hd : decode cc pc = .ok (.iastore, 1)) (kk : q_W x (pc + 1) lv st (mw w h thr sam blk nxt came (va_up part k v) rst)) : q_W x pc lv (.inl v :: .inl (nI k) :: .inr (.inr (some 5)) :: st) (mw w h thr sam blk nxt came part rst) := by
  have h31 : k < 2 ^ 31 := (by omega)
  refine q_iast ok (k := 5) rfl (vp_in_nI hk (by omega)) hd ?_
  rw [q_updI part k v h31]; exact kk
theorem mn_sam {x : q_X} {cc : ByteArray} {own : String} {fr lo pc : Nat} {lv : List (Option q_V)} {st : List q_V} {w : Nat} {h : Nat} {thr : Nat} {sam : Nat → Nat} {blk : Nat → Bool} {nxt : Nat → Bool} {came : Nat → Int32} {part : Nat → Int32} {rst : Int64} (ok : q_ok x cc own fr lo) (hd : decode cc pc = .ok (.arraylength, 1)) (kk : q_W x (pc + 1) lv (.inl (nI (256)) :: st) (mw w h thr sam blk nxt came part rst)) : q_W x pc lv (.inr (.inr (some 1)) :: st) (mw w h thr sam blk nxt came part rst) := q_alen ok (k := 1) rfl (by decide : 0 < 3) hd kk
theorem mn_blk {x : q_X} {cc : ByteArray} {own : String} {fr lo pc : Nat} {lv : List (Option q_V)} {st : List q_V} {w : Nat} {h : Nat} {thr : Nat} {sam : Nat → Nat} {blk : Nat → Bool} {nxt : Nat → Bool} {came : Nat → Int32} {part : Nat → Int32} {rst : Int64} (ok : q_ok x cc own fr lo) (hd : decode cc pc = .ok (.arraylength, 1)) (kk : q_W x (pc + 1) lv (.inl (nI (256)) :: st) (mw w h thr sam blk nxt came part rst)) : q_W x pc lv (.inr (.inr (some 2)) :: st) (mw w h thr sam blk nxt came part rst) := q_alen ok (k := 2) rfl (by decide : 2 < 3) hd kk
theorem mn_nxt {x : q_X} {cc : ByteArray} {own : String} {fr lo pc : Nat} {lv : List (Option q_V)} {st : List q_V} {w : Nat} {h : Nat} {thr : Nat} {sam : Nat → Nat} {blk : Nat → Bool} {nxt : Nat → Bool} {came : Nat → Int32} {part : Nat → Int32} {rst : Int64} (ok : q_ok x cc own fr lo) (hd : decode cc pc = .ok (.arraylength, 1)) (kk : q_W x (pc + 1) lv (.inl (nI (256)) :: st) (mw w h thr sam blk nxt came part rst)) : q_W x pc lv (.inr (.inr (some 3)) :: st) (mw w h thr sam blk nxt came part rst) := q_alen ok (k := 3) rfl (by decide : 2 < 3) hd kk
theorem mn_came {x : q_X} {cc : ByteArray} {own : String} {fr lo pc : Nat} {lv : List (Option q_V)} {st : List q_V} {w : Nat} {h : Nat} {thr : Nat} {sam : Nat → Nat} {blk : Nat → Bool} {nxt : Nat → Bool} {came : Nat → Int32} {part : Nat → Int32} {rst : Int64} (ok : q_ok x cc own fr lo) (hd : decode cc pc = .ok (.arraylength, 1)) (kk : q_W x (pc + 1) lv (.inl (nI (256)) :: st) (mw w h thr sam blk nxt came part rst)) : q_W x pc lv (.inr (.inr (some 4)) :: st) (mw w h thr sam blk nxt came part rst) := q_alen ok (k := 4) rfl (by decide : 0 < 3) hd kk
theorem mn_part {x : q_X} {cc : ByteArray} {own : String} {fr lo pc : Nat} {lv : List (Option q_V)} {st : List q_V} {w : Nat} {h : Nat} {thr : Nat} {sam : Nat → Nat} {blk : Nat → Bool} {nxt : Nat → Bool} {came : Nat → Int32} {part : Nat → Int32} {rst : Int64} (ok : q_ok x cc own fr lo) (hd : decode cc pc = .ok (.arraylength, 1)) (kk : q_W x (pc + 1) lv (.inl (nI (256)) :: st) (mw w h thr sam blk nxt came part rst)) : q_W x pc lv (.inr (.inr (some 5)) :: st) (mw w h thr sam blk nxt came part rst) := q_alen ok (k := 5) rfl (by decide : 0 < 3) hd kk
theorem q_iaddN {x : q_X} {cc : ByteArray} {own : String} {fr lo pc : Nat} {lv : List (Option q_V)} {st : List q_V} {Wd : List q_E} {a b : Nat} (ok : q_ok x cc own fr lo) (hd : decode cc pc = .ok (.iadd, 1)) (kk : q_W x (pc + 1) lv (.inl (nI (a + b)) :: st) Wd) : q_W x pc lv (.inl (nI b) :: .inl (nI a) :: st) Wd := q_iadd ok hd (by rw [nI_add]; exact kk)
theorem q_imulN {x : q_X} {cc : ByteArray} {own : String} {fr lo pc : Nat} {lv : List (Option q_V)} {st : List q_V} {Wd : List q_E} {a b : Nat} (ok : q_ok x cc own fr lo) (hd : decode cc pc = .ok (.imul, 1)) (kk : q_W x (pc + 1) lv (.inl (nI (a * b)) :: st) Wd) : q_W x pc lv (.inl (nI b) :: .inl (nI a) :: st) Wd := q_imul ok hd (by rw [pk_mul]; exact kk)
theorem q_isubN {x : q_X} {cc : ByteArray} {own : String} {fr lo pc : Nat} {lv : List (Option q_V)} {st : List q_V} {Wd : List q_E} {a b : Nat} (hab : b ≤ a) (ok : q_ok x cc own fr lo) (hd : decode cc pc = .ok (.isub, 1)) (kk : q_W x (pc + 1) lv (.inl (nI (a - b)) :: st) Wd) : q_W x pc lv (.inl (nI b) :: .inl (nI a) :: st) Wd := q_isub ok hd (by rw [pk_sub hab]; exact kk)
theorem q_idivN {x : q_X} {cc : ByteArray} {own : String} {fr lo pc : Nat} {lv : List (Option q_V)} {st : List q_V} {Wd : List q_E} {a b : Nat} (ha : a < 2 ^ 31) (h0 : 0 < b) (hb : b < 2 ^ 31) (ok : q_ok x cc own fr lo) (hd : decode cc pc = .ok (.idiv, 1)) (kk : q_W x (pc + 1) lv (.inl (nI (a / b)) :: st) Wd) : q_W x pc lv (.inl (nI b) :: .inl (nI a) :: st) Wd := q_idiv ok (nI_ne0 h0 hb) hd (by rw [pk_div ha h0 hb]; exact kk)
theorem q_iremN {x : q_X} {cc : ByteArray} {own : String} {fr lo pc : Nat} {lv : List (Option q_V)} {st : List q_V} {Wd : List q_E} {a b : Nat} (ha : a < 2 ^ 31) (h0 : 0 < b) (hb : b < 2 ^ 31) (ok : q_ok x cc own fr lo) (hd : decode cc pc = .ok (.irem, 1)) (kk : q_W x (pc + 1) lv (.inl (nI (a % b)) :: st) Wd) : q_W x pc lv (.inl (nI b) :: .inl (nI a) :: st) Wd := q_irem ok (nI_ne0 h0 hb) hd (by rw [pk_rem ha h0 hb]; exact kk)
theorem q_i2lN {x : q_X} {cc : ByteArray} {own : String} {fr lo pc : Nat} {lv : List (Option q_V)} {st : List q_V} {Wd : List q_E} {a : Nat} (ha : a < 2 ^ 31) (ok : q_ok x cc own fr lo) (hd : decode cc pc = .ok (.i2l, 1)) (kk : q_W x (pc + 1) lv (.inr (.inl (lN a)) :: st) Wd) : q_W x pc lv (.inl (nI a) :: st) Wd := q_i2l ok hd (by rw [nI_l ha]; exact kk)
theorem q_laddN {x : q_X} {cc : ByteArray} {own : String} {fr lo pc : Nat} {lv : List (Option q_V)} {st : List q_V} {Wd : List q_E} {a b : Nat} (ok : q_ok x cc own fr lo) (hd : decode cc pc = .ok (.ladd, 1)) (kk : q_W x (pc + 1) lv (.inr (.inl (lN (a + b))) :: st) Wd) : q_W x pc lv (.inr (.inl (lN b)) :: .inr (.inl (lN a)) :: st) Wd := q_ladd ok hd (by rw [lN_add]; exact kk)
theorem q_lmulN {x : q_X} {cc : ByteArray} {own : String} {fr lo pc : Nat} {lv : List (Option q_V)} {st : List q_V} {Wd : List q_E} {a b : Nat} (ok : q_ok x cc own fr lo) (hd : decode cc pc = .ok (.lmul, 1)) (kk : q_W x (pc + 1) lv (.inr (.inl (lN (a * b))) :: st) Wd) : q_W x pc lv (.inr (.inl (lN b)) :: .inr (.inl (lN a)) :: st) Wd := q_lmul ok hd (by rw [lN_mul]; exact kk)
theorem q_lsubN {x : q_X} {cc : ByteArray} {own : String} {fr lo pc : Nat} {lv : List (Option q_V)} {st : List q_V} {Wd : List q_E} {a b : Nat} (hab : b ≤ a) (ok : q_ok x cc own fr lo) (hd : decode cc pc = .ok (.lsub, 1)) (kk : q_W x (pc + 1) lv (.inr (.inl (lN (a - b))) :: st) Wd) : q_W x pc lv (.inr (.inl (lN b)) :: .inr (.inl (lN a)) :: st) Wd := q_lsub ok hd (by rw [lN_sub hab]; exact kk)
theorem q_iincN_0 {x : q_X} {cc : ByteArray} {own : String} {fr lo pc : Nat} {st : List q_V} {Wd : List q_E} {tl : List (Option q_V)} {n : Int} {v : Nat} (u : Nat) (ok : q_ok x cc own fr lo) (hu : Int32.ofInt n = nI u) (hd : decode cc pc = .ok (.iinc 0 n, 3)) (kk : q_W x (pc + 3) (some (.inl (nI (v + u))) :: tl) st Wd) : q_W x pc (some (.inl (nI v)) :: tl) st Wd := q_iinc_0 (nI u) ok hu hd (by rw [nI_add]; exact kk)
theorem q_iincN_1 {x : q_X} {cc : ByteArray} {own : String} {fr lo pc : Nat} {st : List q_V} {Wd : List q_E} {a0 : Option q_V} {tl : List (Option q_V)} {n : Int} {v : Nat} (u : Nat) (ok : q_ok x cc own fr lo) (hp : q_nol a0 = true) (hu : Int32.ofInt n = nI u) (hd : decode cc pc = .ok (.iinc 1 n, 3)) (kk : q_W x (pc + 3) (a0 :: some (.inl (nI (v + u))) :: tl) st Wd) : q_W x pc (a0 :: some (.inl (nI v)) :: tl) st Wd := q_iinc_1 (nI u) ok hp hu hd (by rw [nI_add]; exact kk)
theorem q_iincN_2 {x : q_X} {cc : ByteArray} {own : String} {fr lo pc : Nat} {st : List q_V} {Wd : List q_E} {a0 a1 : Option q_V} {tl : List (Option q_V)} {n : Int} {v : Nat} (u : Nat) (ok : q_ok x cc own fr lo) (hp : q_nol a1 = true) (hu : Int32.ofInt n = nI u) (hd : decode cc pc = .ok (.iinc 2 n, 3)) (kk : q_W x (pc + 3) (a0 :: a1 :: some (.inl (nI (v + u))) :: tl) st Wd) : q_W x pc (a0 :: a1 :: some (.inl (nI v)) :: tl) st Wd := q_iinc_2 (nI u) ok hp hu hd (by rw [nI_add]; exact kk)
theorem q_iincN_3 {x : q_X} {cc : ByteArray} {own : String} {fr lo pc : Nat} {st : List q_V} {Wd : List q_E} {a0 a1 a2 : Option q_V} {tl : List (Option q_V)} {n : Int} {v : Nat} (u : Nat) (ok : q_ok x cc own fr lo) (hp : q_nol a2 = true) (hu : Int32.ofInt n = nI u) (hd : decode cc pc = .ok (.iinc 3 n, 3)) (kk : q_W x (pc + 3) (a0 :: a1 :: a2 :: some (.inl (nI (v + u))) :: tl) st Wd) : q_W x pc (a0 :: a1 :: a2 :: some (.inl (nI v)) :: tl) st Wd := q_iinc_3 (nI u) ok hp hu hd (by rw [nI_add]; exact kk)
theorem q_iincN_4 {x : q_X} {cc : ByteArray} {own : String} {fr lo pc : Nat} {st : List q_V} {Wd : List q_E} {a0 a1 a2 a3 : Option q_V} {tl : List (Option q_V)} {n : Int} {v : Nat} (u : Nat) (ok : q_ok x cc own fr lo) (hp : q_nol a3 = true) (hu : Int32.ofInt n = nI u) (hd : decode cc pc = .ok (.iinc 4 n, 3)) (kk : q_W x (pc + 3) (a0 :: a1 :: a2 :: a3 :: some (.inl (nI (v + u))) :: tl) st Wd) : q_W x pc (a0 :: a1 :: a2 :: a3 :: some (.inl (nI v)) :: tl) st Wd := q_iinc_4 (nI u) ok hp hu hd (by rw [nI_add]; exact kk)
theorem q_iincN_5 {x : q_X} {cc : ByteArray} {own : String} {fr lo pc : Nat} {st : List q_V} {Wd : List q_E} {a0 a1 a2 a3 a4 : Option q_V} {tl : List (Option q_V)} {n : Int} {v : Nat} (u : Nat) (ok : q_ok x cc own fr lo) (hp : q_nol a4 = true) (hu : Int32.ofInt n = nI u) (hd : decode cc pc = .ok (.iinc 5 n, 3)) (kk : q_W x (pc + 3) (a0 :: a1 :: a2 :: a3 :: a4 :: some (.inl (nI (v + u))) :: tl) st Wd) : q_W x pc (a0 :: a1 :: a2 :: a3 :: a4 :: some (.inl (nI v)) :: tl) st Wd := q_iinc_5 (nI u) ok hp hu hd (by rw [nI_add]; exact kk)
theorem q_iincN_6 {x : q_X} {cc : ByteArray} {own : String} {fr lo pc : Nat} {st : List q_V} {Wd : List q_E} {a0 a1 a2 a3 a4 a5 : Option q_V} {tl : List (Option q_V)} {n : Int} {v : Nat} (u : Nat) (ok : q_ok x cc own fr lo) (hp : q_nol a5 = true) (hu : Int32.ofInt n = nI u) (hd : decode cc pc = .ok (.iinc 6 n, 3)) (kk : q_W x (pc + 3) (a0 :: a1 :: a2 :: a3 :: a4 :: a5 :: some (.inl (nI (v + u))) :: tl) st Wd) : q_W x pc (a0 :: a1 :: a2 :: a3 :: a4 :: a5 :: some (.inl (nI v)) :: tl) st Wd := q_iinc_6 (nI u) ok hp hu hd (by rw [nI_add]; exact kk)
theorem q_iincN_7 {x : q_X} {cc : ByteArray} {own : String} {fr lo pc : Nat} {st : List q_V} {Wd : List q_E} {a0 a1 a2 a3 a4 a5 a6 : Option q_V} {tl : List (Option q_V)} {n : Int} {v : Nat} (u : Nat) (ok : q_ok x cc own fr lo) (hp : q_nol a6 = true) (hu : Int32.ofInt n = nI u) (hd : decode cc pc = .ok (.iinc 7 n, 3)) (kk : q_W x (pc + 3) (a0 :: a1 :: a2 :: a3 :: a4 :: a5 :: a6 :: some (.inl (nI (v + u))) :: tl) st Wd) : q_W x pc (a0 :: a1 :: a2 :: a3 :: a4 :: a5 :: a6 :: some (.inl (nI v)) :: tl) st Wd := q_iinc_7 (nI u) ok hp hu hd (by rw [nI_add]; exact kk)
theorem q_iincN_8 {x : q_X} {cc : ByteArray} {own : String} {fr lo pc : Nat} {st : List q_V} {Wd : List q_E} {a0 a1 a2 a3 a4 a5 a6 a7 : Option q_V} {tl : List (Option q_V)} {n : Int} {v : Nat} (u : Nat) (ok : q_ok x cc own fr lo) (hp : q_nol a7 = true) (hu : Int32.ofInt n = nI u) (hd : decode cc pc = .ok (.iinc 8 n, 3)) (kk : q_W x (pc + 3) (a0 :: a1 :: a2 :: a3 :: a4 :: a5 :: a6 :: a7 :: some (.inl (nI (v + u))) :: tl) st Wd) : q_W x pc (a0 :: a1 :: a2 :: a3 :: a4 :: a5 :: a6 :: a7 :: some (.inl (nI v)) :: tl) st Wd := q_iinc_8 (nI u) ok hp hu hd (by rw [nI_add]; exact kk)
theorem q_iincN_9 {x : q_X} {cc : ByteArray} {own : String} {fr lo pc : Nat} {st : List q_V} {Wd : List q_E} {a0 a1 a2 a3 a4 a5 a6 a7 a8 : Option q_V} {tl : List (Option q_V)} {n : Int} {v : Nat} (u : Nat) (ok : q_ok x cc own fr lo) (hp : q_nol a8 = true) (hu : Int32.ofInt n = nI u) (hd : decode cc pc = .ok (.iinc 9 n, 3)) (kk : q_W x (pc + 3) (a0 :: a1 :: a2 :: a3 :: a4 :: a5 :: a6 :: a7 :: a8 :: some (.inl (nI (v + u))) :: tl) st Wd) : q_W x pc (a0 :: a1 :: a2 :: a3 :: a4 :: a5 :: a6 :: a7 :: a8 :: some (.inl (nI v)) :: tl) st Wd := q_iinc_9 (nI u) ok hp hu hd (by rw [nI_add]; exact kk)
theorem q_iincN_10 {x : q_X} {cc : ByteArray} {own : String} {fr lo pc : Nat} {st : List q_V} {Wd : List q_E} {a0 a1 a2 a3 a4 a5 a6 a7 a8 a9 : Option q_V} {tl : List (Option q_V)} {n : Int} {v : Nat} (u : Nat) (ok : q_ok x cc own fr lo) (hp : q_nol a9 = true) (hu : Int32.ofInt n = nI u) (hd : decode cc pc = .ok (.iinc 10 n, 3)) (kk : q_W x (pc + 3) (a0 :: a1 :: a2 :: a3 :: a4 :: a5 :: a6 :: a7 :: a8 :: a9 :: some (.inl (nI (v + u))) :: tl) st Wd) : q_W x pc (a0 :: a1 :: a2 :: a3 :: a4 :: a5 :: a6 :: a7 :: a8 :: a9 :: some (.inl (nI v)) :: tl) st Wd := q_iinc_10 (nI u) ok hp hu hd (by rw [nI_add]; exact kk)
theorem q_iincN_11 {x : q_X} {cc : ByteArray} {own : String} {fr lo pc : Nat} {st : List q_V} {Wd : List q_E} {a0 a1 a2 a3 a4 a5 a6 a7 a8 a9 a10 : Option q_V} {tl : List (Option q_V)} {n : Int} {v : Nat} (u : Nat) (ok : q_ok x cc own fr lo) (hp : q_nol a10 = true) (hu : Int32.ofInt n = nI u) (hd : decode cc pc = .ok (.iinc 11 n, 3)) (kk : q_W x (pc + 3) (a0 :: a1 :: a2 :: a3 :: a4 :: a5 :: a6 :: a7 :: a8 :: a9 :: a10 :: some (.inl (nI (v + u))) :: tl) st Wd) : q_W x pc (a0 :: a1 :: a2 :: a3 :: a4 :: a5 :: a6 :: a7 :: a8 :: a9 :: a10 :: some (.inl (nI v)) :: tl) st Wd := q_iinc_11 (nI u) ok hp hu hd (by rw [nI_add]; exact kk)
theorem q_iincN_12 {x : q_X} {cc : ByteArray} {own : String} {fr lo pc : Nat} {st : List q_V} {Wd : List q_E} {a0 a1 a2 a3 a4 a5 a6 a7 a8 a9 a10 a11 : Option q_V} {tl : List (Option q_V)} {n : Int} {v : Nat} (u : Nat) (ok : q_ok x cc own fr lo) (hp : q_nol a11 = true) (hu : Int32.ofInt n = nI u) (hd : decode cc pc = .ok (.iinc 12 n, 3)) (kk : q_W x (pc + 3) (a0 :: a1 :: a2 :: a3 :: a4 :: a5 :: a6 :: a7 :: a8 :: a9 :: a10 :: a11 :: some (.inl (nI (v + u))) :: tl) st Wd) : q_W x pc (a0 :: a1 :: a2 :: a3 :: a4 :: a5 :: a6 :: a7 :: a8 :: a9 :: a10 :: a11 :: some (.inl (nI v)) :: tl) st Wd := q_iinc_12 (nI u) ok hp hu hd (by rw [nI_add]; exact kk)
theorem q_iincN_13 {x : q_X} {cc : ByteArray} {own : String} {fr lo pc : Nat} {st : List q_V} {Wd : List q_E} {a0 a1 a2 a3 a4 a5 a6 a7 a8 a9 a10 a11 a12 : Option q_V} {tl : List (Option q_V)} {n : Int} {v : Nat} (u : Nat) (ok : q_ok x cc own fr lo) (hp : q_nol a12 = true) (hu : Int32.ofInt n = nI u) (hd : decode cc pc = .ok (.iinc 13 n, 3)) (kk : q_W x (pc + 3) (a0 :: a1 :: a2 :: a3 :: a4 :: a5 :: a6 :: a7 :: a8 :: a9 :: a10 :: a11 :: a12 :: some (.inl (nI (v + u))) :: tl) st Wd) : q_W x pc (a0 :: a1 :: a2 :: a3 :: a4 :: a5 :: a6 :: a7 :: a8 :: a9 :: a10 :: a11 :: a12 :: some (.inl (nI v)) :: tl) st Wd := q_iinc_13 (nI u) ok hp hu hd (by rw [nI_add]; exact kk)
theorem q_iincN_14 {x : q_X} {cc : ByteArray} {own : String} {fr lo pc : Nat} {st : List q_V} {Wd : List q_E} {a0 a1 a2 a3 a4 a5 a6 a7 a8 a9 a10 a11 a12 a13 : Option q_V} {tl : List (Option q_V)} {n : Int} {v : Nat} (u : Nat) (ok : q_ok x cc own fr lo) (hp : q_nol a13 = true) (hu : Int32.ofInt n = nI u) (hd : decode cc pc = .ok (.iinc 14 n, 3)) (kk : q_W x (pc + 3) (a0 :: a1 :: a2 :: a3 :: a4 :: a5 :: a6 :: a7 :: a8 :: a9 :: a10 :: a11 :: a12 :: a13 :: some (.inl (nI (v + u))) :: tl) st Wd) : q_W x pc (a0 :: a1 :: a2 :: a3 :: a4 :: a5 :: a6 :: a7 :: a8 :: a9 :: a10 :: a11 :: a12 :: a13 :: some (.inl (nI v)) :: tl) st Wd := q_iinc_14 (nI u) ok hp hu hd (by rw [nI_add]; exact kk)
theorem q_iincN_15 {x : q_X} {cc : ByteArray} {own : String} {fr lo pc : Nat} {st : List q_V} {Wd : List q_E} {a0 a1 a2 a3 a4 a5 a6 a7 a8 a9 a10 a11 a12 a13 a14 : Option q_V} {tl : List (Option q_V)} {n : Int} {v : Nat} (u : Nat) (ok : q_ok x cc own fr lo) (hp : q_nol a14 = true) (hu : Int32.ofInt n = nI u) (hd : decode cc pc = .ok (.iinc 15 n, 3)) (kk : q_W x (pc + 3) (a0 :: a1 :: a2 :: a3 :: a4 :: a5 :: a6 :: a7 :: a8 :: a9 :: a10 :: a11 :: a12 :: a13 :: a14 :: some (.inl (nI (v + u))) :: tl) st Wd) : q_W x pc (a0 :: a1 :: a2 :: a3 :: a4 :: a5 :: a6 :: a7 :: a8 :: a9 :: a10 :: a11 :: a12 :: a13 :: a14 :: some (.inl (nI v)) :: tl) st Wd := q_iinc_15 (nI u) ok hp hu hd (by rw [nI_add]; exact kk)
theorem q_iincN_16 {x : q_X} {cc : ByteArray} {own : String} {fr lo pc : Nat} {st : List q_V} {Wd : List q_E} {a0 a1 a2 a3 a4 a5 a6 a7 a8 a9 a10 a11 a12 a13 a14 a15 : Option q_V} {tl : List (Option q_V)} {n : Int} {v : Nat} (u : Nat) (ok : q_ok x cc own fr lo) (hp : q_nol a15 = true) (hu : Int32.ofInt n = nI u) (hd : decode cc pc = .ok (.iinc 16 n, 3)) (kk : q_W x (pc + 3) (a0 :: a1 :: a2 :: a3 :: a4 :: a5 :: a6 :: a7 :: a8 :: a9 :: a10 :: a11 :: a12 :: a13 :: a14 :: a15 :: some (.inl (nI (v + u))) :: tl) st Wd) : q_W x pc (a0 :: a1 :: a2 :: a3 :: a4 :: a5 :: a6 :: a7 :: a8 :: a9 :: a10 :: a11 :: a12 :: a13 :: a14 :: a15 :: some (.inl (nI v)) :: tl) st Wd := q_iinc_16 (nI u) ok hp hu hd (by rw [nI_add]; exact kk)
theorem q_iincN_17 {x : q_X} {cc : ByteArray} {own : String} {fr lo pc : Nat} {st : List q_V} {Wd : List q_E} {a0 a1 a2 a3 a4 a5 a6 a7 a8 a9 a10 a11 a12 a13 a14 a15 a16 : Option q_V} {tl : List (Option q_V)} {n : Int} {v : Nat} (u : Nat) (ok : q_ok x cc own fr lo) (hp : q_nol a16 = true) (hu : Int32.ofInt n = nI u) (hd : decode cc pc = .ok (.iinc 17 n, 3)) (kk : q_W x (pc + 3) (a0 :: a1 :: a2 :: a3 :: a4 :: a5 :: a6 :: a7 :: a8 :: a9 :: a10 :: a11 :: a12 :: a13 :: a14 :: a15 :: a16 :: some (.inl (nI (v + u))) :: tl) st Wd) : q_W x pc (a0 :: a1 :: a2 :: a3 :: a4 :: a5 :: a6 :: a7 :: a8 :: a9 :: a10 :: a11 :: a12 :: a13 :: a14 :: a15 :: a16 :: some (.inl (nI v)) :: tl) st Wd := q_iinc_17 (nI u) ok hp hu hd (by rw [nI_add]; exact kk)
theorem q_iincN_18 {x : q_X} {cc : ByteArray} {own : String} {fr lo pc : Nat} {st : List q_V} {Wd : List q_E} {a0 a1 a2 a3 a4 a5 a6 a7 a8 a9 a10 a11 a12 a13 a14 a15 a16 a17 : Option q_V} {tl : List (Option q_V)} {n : Int} {v : Nat} (u : Nat) (ok : q_ok x cc own fr lo) (hp : q_nol a17 = true) (hu : Int32.ofInt n = nI u) (hd : decode cc pc = .ok (.iinc 18 n, 3)) (kk : q_W x (pc + 3) (a0 :: a1 :: a2 :: a3 :: a4 :: a5 :: a6 :: a7 :: a8 :: a9 :: a10 :: a11 :: a12 :: a13 :: a14 :: a15 :: a16 :: a17 :: some (.inl (nI (v + u))) :: tl) st Wd) : q_W x pc (a0 :: a1 :: a2 :: a3 :: a4 :: a5 :: a6 :: a7 :: a8 :: a9 :: a10 :: a11 :: a12 :: a13 :: a14 :: a15 :: a16 :: a17 :: some (.inl (nI v)) :: tl) st Wd := q_iinc_18 (nI u) ok hp hu hd (by rw [nI_add]; exact kk)
theorem q_iincN_19 {x : q_X} {cc : ByteArray} {own : String} {fr lo pc : Nat} {st : List q_V} {Wd : List q_E} {a0 a1 a2 a3 a4 a5 a6 a7 a8 a9 a10 a11 a12 a13 a14 a15 a16 a17 a18 : Option q_V} {tl : List (Option q_V)} {n : Int} {v : Nat} (u : Nat) (ok : q_ok x cc own fr lo) (hp : q_nol a18 = true) (hu : Int32.ofInt n = nI u) (hd : decode cc pc = .ok (.iinc 19 n, 3)) (kk : q_W x (pc + 3) (a0 :: a1 :: a2 :: a3 :: a4 :: a5 :: a6 :: a7 :: a8 :: a9 :: a10 :: a11 :: a12 :: a13 :: a14 :: a15 :: a16 :: a17 :: a18 :: some (.inl (nI (v + u))) :: tl) st Wd) : q_W x pc (a0 :: a1 :: a2 :: a3 :: a4 :: a5 :: a6 :: a7 :: a8 :: a9 :: a10 :: a11 :: a12 :: a13 :: a14 :: a15 :: a16 :: a17 :: a18 :: some (.inl (nI v)) :: tl) st Wd := q_iinc_19 (nI u) ok hp hu hd (by rw [nI_add]; exact kk)
theorem q_iincN_20 {x : q_X} {cc : ByteArray} {own : String} {fr lo pc : Nat} {st : List q_V} {Wd : List q_E} {a0 a1 a2 a3 a4 a5 a6 a7 a8 a9 a10 a11 a12 a13 a14 a15 a16 a17 a18 a19 : Option q_V} {tl : List (Option q_V)} {n : Int} {v : Nat} (u : Nat) (ok : q_ok x cc own fr lo) (hp : q_nol a19 = true) (hu : Int32.ofInt n = nI u) (hd : decode cc pc = .ok (.iinc 20 n, 3)) (kk : q_W x (pc + 3) (a0 :: a1 :: a2 :: a3 :: a4 :: a5 :: a6 :: a7 :: a8 :: a9 :: a10 :: a11 :: a12 :: a13 :: a14 :: a15 :: a16 :: a17 :: a18 :: a19 :: some (.inl (nI (v + u))) :: tl) st Wd) : q_W x pc (a0 :: a1 :: a2 :: a3 :: a4 :: a5 :: a6 :: a7 :: a8 :: a9 :: a10 :: a11 :: a12 :: a13 :: a14 :: a15 :: a16 :: a17 :: a18 :: a19 :: some (.inl (nI v)) :: tl) st Wd := q_iinc_20 (nI u) ok hp hu hd (by rw [nI_add]; exact kk)
theorem q_icmpN_eq {x : q_X} {cc : ByteArray} {own : String} {fr lo pc : Nat} {lv : List (Option q_V)} {st : List q_V} {Wd : List q_E} {a b : Nat} {off : Int} (tgt : Nat) (ha : a < 2 ^ 31) (hb : b < 2 ^ 31) (ok : q_ok x cc own fr lo) (hd : decode cc pc = .ok (.if_icmp .eq off, 3)) (ht : (pc : Int) + off = (tgt : Int)) (kt : a = b → q_W x tgt lv st Wd) (kf : ¬ a = b → q_W x (pc + 3) lv st Wd) : q_W x pc lv (.inl (nI b) :: .inl (nI a) :: st) Wd := q_icmp_eq tgt ok hd ht (fun h => kt ((nI_eq ha hb).mp h)) (fun h => kf (mt (nI_eq ha hb).mpr h))
theorem q_icmpN_ne {x : q_X} {cc : ByteArray} {own : String} {fr lo pc : Nat} {lv : List (Option q_V)} {st : List q_V} {Wd : List q_E} {a b : Nat} {off : Int} (tgt : Nat) (ha : a < 2 ^ 31) (hb : b < 2 ^ 31) (ok : q_ok x cc own fr lo) (hd : decode cc pc = .ok (.if_icmp .ne off, 3)) (ht : (pc : Int) + off = (tgt : Int)) (kt : ¬ a = b → q_W x tgt lv st Wd) (kf : a = b → q_W x (pc + 3) lv st Wd) : q_W x pc lv (.inl (nI b) :: .inl (nI a) :: st) Wd := q_icmp_ne tgt ok hd ht (fun h => kt (mt (nI_eq ha hb).mpr h)) (fun h => kf ((nI_eq ha hb).mp h))
theorem q_icmpN_lt {x : q_X} {cc : ByteArray} {own : String} {fr lo pc : Nat} {lv : List (Option q_V)} {st : List q_V} {Wd : List q_E} {a b : Nat} {off : Int} (tgt : Nat) (ha : a < 2 ^ 31) (hb : b < 2 ^ 31) (ok : q_ok x cc own fr lo) (hd : decode cc pc = .ok (.if_icmp .lt off, 3)) (ht : (pc : Int) + off = (tgt : Int)) (kt : a < b → q_W x tgt lv st Wd) (kf : ¬ a < b → q_W x (pc + 3) lv st Wd) : q_W x pc lv (.inl (nI b) :: .inl (nI a) :: st) Wd := q_icmp_lt tgt ok hd ht (fun h => kt ((nI_ltI ha hb).mp h)) (fun h => kf (mt (nI_ltI ha hb).mpr h))
theorem q_icmpN_ge {x : q_X} {cc : ByteArray} {own : String} {fr lo pc : Nat} {lv : List (Option q_V)} {st : List q_V} {Wd : List q_E} {a b : Nat} {off : Int} (tgt : Nat) (ha : a < 2 ^ 31) (hb : b < 2 ^ 31) (ok : q_ok x cc own fr lo) (hd : decode cc pc = .ok (.if_icmp .ge off, 3)) (ht : (pc : Int) + off = (tgt : Int)) (kt : b ≤ a → q_W x tgt lv st Wd) (kf : ¬ b ≤ a → q_W x (pc + 3) lv st Wd) : q_W x pc lv (.inl (nI b) :: .inl (nI a) :: st) Wd := q_icmp_ge tgt ok hd ht (fun h => kt ((nI_leI hb ha).mp h)) (fun h => kf (mt (nI_leI hb ha).mpr h))
theorem q_icmpN_gt {x : q_X} {cc : ByteArray} {own : String} {fr lo pc : Nat} {lv : List (Option q_V)} {st : List q_V} {Wd : List q_E} {a b : Nat} {off : Int} (tgt : Nat) (ha : a < 2 ^ 31) (hb : b < 2 ^ 31) (ok : q_ok x cc own fr lo) (hd : decode cc pc = .ok (.if_icmp .gt off, 3)) (ht : (pc : Int) + off = (tgt : Int)) (kt : b < a → q_W x tgt lv st Wd) (kf : ¬ b < a → q_W x (pc + 3) lv st Wd) : q_W x pc lv (.inl (nI b) :: .inl (nI a) :: st) Wd := q_icmp_gt tgt ok hd ht (fun h => kt ((nI_ltI hb ha).mp h)) (fun h => kf (mt (nI_ltI hb ha).mpr h))
theorem q_icmpN_le {x : q_X} {cc : ByteArray} {own : String} {fr lo pc : Nat} {lv : List (Option q_V)} {st : List q_V} {Wd : List q_E} {a b : Nat} {off : Int} (tgt : Nat) (ha : a < 2 ^ 31) (hb : b < 2 ^ 31) (ok : q_ok x cc own fr lo) (hd : decode cc pc = .ok (.if_icmp .le off, 3)) (ht : (pc : Int) + off = (tgt : Int)) (kt : a ≤ b → q_W x tgt lv st Wd) (kf : ¬ a ≤ b → q_W x (pc + 3) lv st Wd) : q_W x pc lv (.inl (nI b) :: .inl (nI a) :: st) Wd := q_icmp_le tgt ok hd ht (fun h => kt ((nI_leI ha hb).mp h)) (fun h => kf (mt (nI_leI ha hb).mpr h))
theorem q_ifb_eq {x : q_X} {cc : ByteArray} {own : String} {fr lo pc : Nat} {lv : List (Option q_V)} {st : List q_V} {Wd : List q_E} {a : Bool} {off : Int} (tgt : Nat) (ok : q_ok x cc own fr lo) (hd : decode cc pc = .ok (.ifCond .eq off, 3)) (ht : (pc : Int) + off = (tgt : Int)) (kt : a = false → q_W x tgt lv st Wd) (kf : a = true → q_W x (pc + 3) lv st Wd) : q_W x pc lv (.inl (bI a) :: st) Wd := q_if_eq tgt ok hd ht (fun h => kt ((bI_0 a).mp h)) (fun h => kf (by cases a <;> simp [bI] at h ⊢))
theorem q_ifb_ne {x : q_X} {cc : ByteArray} {own : String} {fr lo pc : Nat} {lv : List (Option q_V)} {st : List q_V} {Wd : List q_E} {a : Bool} {off : Int} (tgt : Nat) (ok : q_ok x cc own fr lo) (hd : decode cc pc = .ok (.ifCond .ne off, 3)) (ht : (pc : Int) + off = (tgt : Int)) (kt : a = true → q_W x tgt lv st Wd) (kf : a = false → q_W x (pc + 3) lv st Wd) : q_W x pc lv (.inl (bI a) :: st) Wd := q_if_ne tgt ok hd ht (fun h => kt (by cases a <;> simp [bI] at h ⊢)) (fun h => kf ((bI_0 a).mp h))
theorem q_icmpb_eq {x : q_X} {cc : ByteArray} {own : String} {fr lo pc : Nat} {lv : List (Option q_V)} {st : List q_V} {Wd : List q_E} {a b : Bool} {off : Int} (tgt : Nat) (ok : q_ok x cc own fr lo) (hd : decode cc pc = .ok (.if_icmp .eq off, 3)) (ht : (pc : Int) + off = (tgt : Int)) (kt : a = b → q_W x tgt lv st Wd) (kf : ¬ a = b → q_W x (pc + 3) lv st Wd) : q_W x pc lv (.inl (bI b) :: .inl (bI a) :: st) Wd := q_icmp_eq tgt ok hd ht (fun h => kt (bI_inj.mp h)) (fun h => kf (mt bI_inj.mpr h))
theorem q_icmpb_ne {x : q_X} {cc : ByteArray} {own : String} {fr lo pc : Nat} {lv : List (Option q_V)} {st : List q_V} {Wd : List q_E} {a b : Bool} {off : Int} (tgt : Nat) (ok : q_ok x cc own fr lo) (hd : decode cc pc = .ok (.if_icmp .ne off, 3)) (ht : (pc : Int) + off = (tgt : Int)) (kt : ¬ a = b → q_W x tgt lv st Wd) (kf : a = b → q_W x (pc + 3) lv st Wd) : q_W x pc lv (.inl (bI b) :: .inl (bI a) :: st) Wd := q_icmp_ne tgt ok hd ht (fun h => kt (mt bI_inj.mpr h)) (fun h => kf (bI_inj.mp h))
theorem nI_z {a : Nat} (ha : a < 2 ^ 31) : nI a = 0 ↔ a = 0 := by
  have h := nI_eq (b := 0) ha (by decide)
  exact h
theorem nI_zlt {a : Nat} (ha : a < 2 ^ 31) : 0 < nI a ↔ 0 < a := nI_ltI (a := 0) (by decide) ha
theorem nI_zle {a : Nat} (ha : a < 2 ^ 31) : nI a ≤ 0 ↔ a = 0 := by
  have h := nI_leI (b := 0) ha (by decide)
  exact h.trans Nat.le_zero
theorem q_ifN_eq {x : q_X} {cc : ByteArray} {own : String} {fr lo pc : Nat} {lv : List (Option q_V)} {st : List q_V} {Wd : List q_E} {a : Nat} {off : Int} (tgt : Nat) (ha : a < 2 ^ 31) (ok : q_ok x cc own fr lo) (hd : decode cc pc = .ok (.ifCond .eq off, 3)) (ht : (pc : Int) + off = (tgt : Int)) (kt : a = 0 → q_W x tgt lv st Wd) (kf : ¬ a = 0 → q_W x (pc + 3) lv st Wd) : q_W x pc lv (.inl (nI a) :: st) Wd := q_if_eq tgt ok hd ht (fun h => kt ((nI_z ha).mp h)) (fun h => kf (mt (nI_z ha).mpr h))
theorem q_ifN_ne {x : q_X} {cc : ByteArray} {own : String} {fr lo pc : Nat} {lv : List (Option q_V)} {st : List q_V} {Wd : List q_E} {a : Nat} {off : Int} (tgt : Nat) (ha : a < 2 ^ 31) (ok : q_ok x cc own fr lo) (hd : decode cc pc = .ok (.ifCond .ne off, 3)) (ht : (pc : Int) + off = (tgt : Int)) (kt : ¬ a = 0 → q_W x tgt lv st Wd) (kf : a = 0 → q_W x (pc + 3) lv st Wd) : q_W x pc lv (.inl (nI a) :: st) Wd := q_if_ne tgt ok hd ht (fun h => kt (mt (nI_z ha).mpr h)) (fun h => kf ((nI_z ha).mp h))
theorem q_ifN_gt {x : q_X} {cc : ByteArray} {own : String} {fr lo pc : Nat} {lv : List (Option q_V)} {st : List q_V} {Wd : List q_E} {a : Nat} {off : Int} (tgt : Nat) (ha : a < 2 ^ 31) (ok : q_ok x cc own fr lo) (hd : decode cc pc = .ok (.ifCond .gt off, 3)) (ht : (pc : Int) + off = (tgt : Int)) (kt : 0 < a → q_W x tgt lv st Wd) (kf : ¬ 0 < a → q_W x (pc + 3) lv st Wd) : q_W x pc lv (.inl (nI a) :: st) Wd := q_if_gt tgt ok hd ht (fun h => kt ((nI_zlt ha).mp h)) (fun h => kf (mt (nI_zlt ha).mpr h))
theorem q_ifN_le {x : q_X} {cc : ByteArray} {own : String} {fr lo pc : Nat} {lv : List (Option q_V)} {st : List q_V} {Wd : List q_E} {a : Nat} {off : Int} (tgt : Nat) (ha : a < 2 ^ 31) (ok : q_ok x cc own fr lo) (hd : decode cc pc = .ok (.ifCond .le off, 3)) (ht : (pc : Int) + off = (tgt : Int)) (kt : a = 0 → q_W x tgt lv st Wd) (kf : ¬ a = 0 → q_W x (pc + 3) lv st Wd) : q_W x pc lv (.inl (nI a) :: st) Wd := q_if_le tgt ok hd ht (fun h => kt ((nI_zle ha).mp h)) (fun h => kf (mt (nI_zle ha).mpr h))
theorem q_ifN_lt {x : q_X} {cc : ByteArray} {own : String} {fr lo pc : Nat} {lv : List (Option q_V)} {st : List q_V} {Wd : List q_E} {a : Nat} {off : Int} (ha : a < 2 ^ 31) (ok : q_ok x cc own fr lo) (hd : decode cc pc = .ok (.ifCond .lt off, 3)) (tgt : Nat) (ht : (pc : Int) + off = (tgt : Int)) (kf : q_W x (pc + 3) lv st Wd) : q_W x pc lv (.inl (nI a) :: st) Wd := q_if_lt tgt ok hd ht (fun h => absurd h (nI_pos ha)) (fun _ => kf)
theorem q_ifN_ge {x : q_X} {cc : ByteArray} {own : String} {fr lo pc : Nat} {lv : List (Option q_V)} {st : List q_V} {Wd : List q_E} {a : Nat} {off : Int} (ha : a < 2 ^ 31) (ok : q_ok x cc own fr lo) (hd : decode cc pc = .ok (.ifCond .ge off, 3)) (tgt : Nat) (ht : (pc : Int) + off = (tgt : Int)) (kt : q_W x tgt lv st Wd) : q_W x pc lv (.inl (nI a) :: st) Wd := q_if_ge tgt ok hd ht (fun _ => kt) (fun h => absurd (nI_pos' ha) h)
theorem q_if0_eq {x : q_X} {cc : ByteArray} {own : String} {fr lo pc : Nat} {lv : List (Option q_V)} {st : List q_V} {Wd : List q_E} {off : Int} (tgt : Nat) (ok : q_ok x cc own fr lo) (hd : decode cc pc = .ok (.ifCond .eq off, 3)) (ht : (pc : Int) + off = (tgt : Int)) (kk : q_W x tgt lv st Wd) : q_W x pc lv (.inl (bI false) :: st) Wd := q_ifb_eq tgt ok hd ht (fun _ => kk) (fun h => by cases h)
theorem q_if1_eq {x : q_X} {cc : ByteArray} {own : String} {fr lo pc : Nat} {lv : List (Option q_V)} {st : List q_V} {Wd : List q_E} {off : Int} (tgt : Nat) (ok : q_ok x cc own fr lo) (hd : decode cc pc = .ok (.ifCond .eq off, 3)) (ht : (pc : Int) + off = (tgt : Int)) (kk : q_W x (pc + 3) lv st Wd) : q_W x pc lv (.inl (bI true) :: st) Wd := q_ifb_eq tgt ok hd ht (fun h => by cases h) (fun _ => kk)
theorem q_if0_ne {x : q_X} {cc : ByteArray} {own : String} {fr lo pc : Nat} {lv : List (Option q_V)} {st : List q_V} {Wd : List q_E} {off : Int} (tgt : Nat) (ok : q_ok x cc own fr lo) (hd : decode cc pc = .ok (.ifCond .ne off, 3)) (ht : (pc : Int) + off = (tgt : Int)) (kk : q_W x (pc + 3) lv st Wd) : q_W x pc lv (.inl (bI false) :: st) Wd := q_ifb_ne tgt ok hd ht (fun h => by cases h) (fun _ => kk)
theorem q_if1_ne {x : q_X} {cc : ByteArray} {own : String} {fr lo pc : Nat} {lv : List (Option q_V)} {st : List q_V} {Wd : List q_E} {off : Int} (tgt : Nat) (ok : q_ok x cc own fr lo) (hd : decode cc pc = .ok (.ifCond .ne off, 3)) (ht : (pc : Int) + off = (tgt : Int)) (kk : q_W x tgt lv st Wd) : q_W x pc lv (.inl (bI true) :: st) Wd := q_ifb_ne tgt ok hd ht (fun _ => kk) (fun h => by cases h)
end
section
-- the JDK's own methods: Math.max, min, floorMod, Arrays.fill
theorem lkX0_max : Cond.methodLink RX0 168 Lib.Math.max.name ∈ wsL_law ∧ Cond.static Lib.Math.max.name ∈ wsL_law ∧ Cond.initialized "java/lang/Math" ∈ wsL_law ∧ Cond.code Lib.Math.max.name Lib.Math.max.code 2 (some .int) ∈ wsL_law := ⟨by decide +kernel, by decide +kernel, by decide +kernel, by decide +kernel⟩
theorem lkX0_min : Cond.methodLink RX0 165 Lib.Math.min.name ∈ wsL_law ∧ Cond.static Lib.Math.min.name ∈ wsL_law ∧ Cond.initialized "java/lang/Math" ∈ wsL_law ∧ Cond.code Lib.Math.min.name Lib.Math.min.code 2 (some .int) ∈ wsL_law := ⟨by decide +kernel, by decide +kernel, by decide +kernel, by decide +kernel⟩
theorem q_stc {st : List q_V} {ad : Nat → Nat} (hst : (st.map (fun v => if q_nol (some v) then 1 else 2)).sum ≤ 8) : ((st.map (q_cv ad)).map fun v => v.category).sum ≤ 8 := by
  rw [List.map_map]
  refine Nat.le_trans (Nat.le_of_eq ?_) hst
  congr 1
  refine List.map_congr_left (fun v _ => ?_)
  rcases v with u | u | (_ | u) <;> simp [q_cv, Value.category, q_nol]
theorem q_mmax {x : q_X} {cc : ByteArray} {own : String} {fr lo pc ix : Nat} {lv : List (Option q_V)} {st : List q_V} {Wd : List q_E} {a b : Int32} (lk : Cond.methodLink own ix Lib.Math.max.name ∈ wsL_law ∧ Cond.static Lib.Math.max.name ∈ wsL_law ∧ Cond.initialized "java/lang/Math" ∈ wsL_law ∧ Cond.code Lib.Math.max.name Lib.Math.max.code 2 (some .int) ∈ wsL_law) (hR : 1 ≤ fr ∧ 21 ≤ lo) (hst : (st.map (fun v => if q_nol (some v) then 1 else 2)).sum ≤ 8) (ok : q_ok x cc own fr lo) (hd : decode cc pc = .ok (.invokestatic ix, 3)) (kk : q_W x (pc + 3) lv (.inl (if a < b then b else a) :: st) Wd) : q_W x pc lv (.inl b :: .inl a :: st) Wd := by
  obtain ⟨p, l, e, R, s, m, args, below, meth, c, A, H0, cells, slots, Q, D, cA, ad⟩ := x
  obtain ⟨hx, hb, hown, hts, hK, hA, hfr, hlo, hce, hsl⟩ := ok
  intro H locs ls hl hn hP hD hS
  have h8 := q_stc (ad := ad) hst
  exact va_mmax hx hb (hn.symm.trans hl.1.symm) hown (hts _ lk.1) (hts _ lk.2.1) (hts _ lk.2.2.1) (hts _ lk.2.2.2) (Nat.le_trans hR.1 hfr) (by omega) hce hsl hd (kk H locs ls hl hn hP hD hS)
theorem q_mmin {x : q_X} {cc : ByteArray} {own : String} {fr lo pc ix : Nat} {lv : List (Option q_V)} {st : List q_V} {Wd : List q_E} {a b : Int32} (lk : Cond.methodLink own ix Lib.Math.min.name ∈ wsL_law ∧ Cond.static Lib.Math.min.name ∈ wsL_law ∧ Cond.initialized "java/lang/Math" ∈ wsL_law ∧ Cond.code Lib.Math.min.name Lib.Math.min.code 2 (some .int) ∈ wsL_law) (hR : 1 ≤ fr ∧ 21 ≤ lo) (hst : (st.map (fun v => if q_nol (some v) then 1 else 2)).sum ≤ 8) (ok : q_ok x cc own fr lo) (hd : decode cc pc = .ok (.invokestatic ix, 3)) (kk : q_W x (pc + 3) lv (.inl (if b < a then b else a) :: st) Wd) : q_W x pc lv (.inl b :: .inl a :: st) Wd := by
  obtain ⟨p, l, e, R, s, m, args, below, meth, c, A, H0, cells, slots, Q, D, cA, ad⟩ := x
  obtain ⟨hx, hb, hown, hts, hK, hA, hfr, hlo, hce, hsl⟩ := ok
  intro H locs ls hl hn hP hD hS
  have h8 := q_stc (ad := ad) hst
  exact va_mmin hx hb (hn.symm.trans hl.1.symm) hown (hts _ lk.1) (hts _ lk.2.1) (hts _ lk.2.2.1) (hts _ lk.2.2.2) (Nat.le_trans hR.1 hfr) (by omega) hce hsl hd (kk H locs ls hl hn hP hD hS)
theorem q_ixor {x : q_X} {cc : ByteArray} {own : String} {fr lo pc : Nat} {lv : List (Option q_V)} {st : List q_V} {Wd : List q_E} {a b : Int32} (ok : q_ok x cc own fr lo) (hd : decode cc pc = .ok (.ixor, 1)) (kk : q_W x (pc + 1) lv (.inl (a ^^^ b) :: st) Wd) : q_W x pc lv (.inl b :: .inl a :: st) Wd := by
  obtain ⟨p, l, e, R, s, m, args, below, meth, c, A, H0, cells, slots, Q, D, cA, ad⟩ := x
  obtain ⟨hx, hb, hown, hts, hK, hA, hfr, hlo, hce, hsl⟩ := ok
  intro H locs ls hl hn hP hD hS
  exact lv_ixor hx hb hd (kk H locs ls hl hn hP hD hS)
-- floorMod(a, 256)
def lo8 (a : Int32) : Nat := a.toBitVec.toNat % 256
theorem fm_sgn (a : Int32) : a ^^^ nI 256 < 0 ↔ a < 0 := by
  rw [Int32.lt_iff_toInt_lt, Int32.lt_iff_toInt_lt]
  show (a ^^^ nI 256).toBitVec.toInt < (0 : Int32).toInt ↔ a.toBitVec.toInt < (0 : Int32).toInt
  rw [Int32.toInt_zero, Int32.toBitVec_xor]
  have h1 := BitVec.msb_eq_toInt (x := a.toBitVec ^^^ (nI 256).toBitVec)
  have h2 := BitVec.msb_eq_toInt (x := a.toBitVec)
  rw [BitVec.msb_xor, show (nI 256).toBitVec.msb = false from by decide +kernel, Bool.xor_false, h2] at h1
  exact (decide_eq_decide.mp h1).symm
theorem fm_i (z : Int) : (z.tdiv 256 = if 0 ≤ z then z / 256 else -((-z) / 256)) ∧ (z.tmod 256 = if 0 ≤ z then z % 256 else -((-z) % 256)) := by
  by_cases h : 0 ≤ z
  · rw [if_pos h, if_pos h]
    exact ⟨Int.tdiv_eq_ediv_of_nonneg h, Int.tmod_eq_emod_of_nonneg h⟩
  · rw [if_neg h, if_neg h]
    have h1 : 0 ≤ -z := by omega
    have e1 : (-(-z)).tdiv 256 = -((-z).tdiv 256) := Int.neg_tdiv _ _
    have e2 : (-(-z)).tmod 256 = -((-z).tmod 256) := Int.neg_tmod _ _
    rw [Int.neg_neg] at e1 e2
    rw [e1, e2, Int.tdiv_eq_ediv_of_nonneg h1, Int.tmod_eq_emod_of_nonneg h1]
    exact ⟨rfl, rfl⟩
theorem fm_rem (a : Int32) : (a - a / nI 256 * nI 256).toInt = a.toInt.tmod 256 := by
  have ha := Int32.le_toInt a
  have hb := Int32.toInt_lt a
  have h256 : (nI 256).toInt = 256 := by decide +kernel
  obtain ⟨e1, e2⟩ := fm_i a.toInt
  have hq : (a / nI 256).toInt = a.toInt.tdiv 256 := by
    rw [Int32.toInt_div, h256, Int.bmod_eq_of_le]
    · rw [e1]; split <;> omega
    · rw [e1]; split <;> omega
  have hm : (a / nI 256 * nI 256).toInt = a.toInt.tdiv 256 * 256 := by
    rw [Int32.toInt_mul, hq, h256, Int.bmod_eq_of_le]
    · rw [e1]; split <;> omega
    · rw [e1]; split <;> omega
  rw [Int32.toInt_sub, hm, Int.bmod_eq_of_le]
  · rw [e1, e2]; split <;> omega
  · rw [e1]; split <;> omega
  · rw [e1]; split <;> omega
theorem lo8_toInt (a : Int32) : ((lo8 a : Nat) : Int) = a.toInt % 256 := by
  unfold lo8
  have h : a.toInt = a.toBitVec.toInt := rfl
  rw [h, BitVec.toInt_eq_toNat_cond]
  have := a.toBitVec.isLt
  split <;> omega
theorem lo8_lt (a : Int32) : lo8 a < 256 := Nat.mod_lt _ (by decide)
theorem fm_pos {a : Int32} (h : ¬ a < 0) : a - a / nI 256 * nI 256 = nI (lo8 a) := by
  rw [Int32.lt_iff_toInt_lt, Int32.toInt_zero] at h
  rw [← Int32.toInt_inj, fm_rem, nI_toInt (by have := lo8_lt a; omega), lo8_toInt, Int.tmod_eq_emod_of_nonneg (by omega)]
theorem fm_zero {a : Int32} (h0 : a - a / nI 256 * nI 256 = 0) : a - a / nI 256 * nI 256 = nI (lo8 a) := by
  have h1 := fm_rem a
  rw [h0, Int32.toInt_zero] at h1
  have h2 : (256 : Int) ∣ a.toInt := Int.dvd_of_tmod_eq_zero h1.symm
  rw [h0]
  have h3 := lo8_toInt a
  have : lo8 a = 0 := by omega
  rw [this]; rfl
theorem fm_neg {a : Int32} (h : a < 0) (h0 : ¬ a - a / nI 256 * nI 256 = 0) : a - a / nI 256 * nI 256 + nI 256 = nI (lo8 a) := by
  rw [Int32.lt_iff_toInt_lt, Int32.toInt_zero] at h
  have h1 := fm_rem a
  have h5 : ¬ a.toInt.tmod 256 = 0 := fun e => h0 (by rw [← Int32.toInt_inj, h1, e]; rfl)
  obtain ⟨e1, e2⟩ := fm_i a.toInt
  rw [if_neg (by omega)] at e2
  have h256 : (nI 256).toInt = 256 := by decide +kernel
  have h3 := lo8_toInt a
  rw [← Int32.toInt_inj, Int32.toInt_add, h1, nI_toInt (n := lo8 a) (by have := lo8_lt a; omega), h3, h256, Int.bmod_eq_of_le (by omega) (by omega)]
  omega
theorem q_metF {y : MethodName} {b : ByteArray} {n : Nat} {ret : Option FieldType} {fr lo : Nat} {spec : List q_V → List q_E → (Option q_V → List q_E → Prop) → Prop} (hy : plainFor y = true)
    (body : ∀ (x : q_X) (as : List q_V) (Wd : List q_E) (K : Option q_V → List q_E → Prop), spec as Wd K → q_ok x b y.cls fr lo → q_fin x ret K → q_W x 0 (q_ent as n) [] Wd) : q_Ct y b n ret fr lo spec := by
  intro l D cA ad sz as Wd K hle hs
  refine va_MetF (cc := b) (maxL := n) (ret := ret) hy rfl ?_
  intro p e s m args below meth c s₁ B hml hv
  obtain ⟨rfl, hsz, hP, hK, hD0⟩ := hv
  have hx := B.exec
  have hb := B.bytes
  have hr := B.returns
  have hts := atoms_spec (ws := q_ws y b n ret) B.pre
  have hown : s.vm.findClass y.cls = some m.cls := findClass_of_methodNamed B.named
  have hlocks := B.notSynchronized
  subst hsz
  have hD := hD0.self (sz := s.heap.size)
  rw [lg_entry_eq]
  have hl := lv_entry (as.map (q_cv ad)) (n := n) (by rw [q_sl_len]; exact hle)
  have hlen : (q_ent as n).length = n := by unfold q_ent; rw [List.length_append, List.length_replicate]; omega
  refine body (p, l, e, (headSpec (q_ws y b n ret) (q_rm fr lo)).room, s, m, (as.map (q_cv ad)).toArray, below, meth, c, va_A (q_cw cA ad 0 Wd) s.heap.size, s.heap, 0, 0, MQ below (q_Q D cA ad K (va_A (q_cw cA ad 0 Wd) s.heap.size)) (as.map (q_cv ad)).toArray s 0 0 (va_A (q_cw cA ad 0 Wd) s.heap.size), D, cA, ad) as Wd K hs ⟨hx, hb, hown, fun w hw => hts w (List.mem_cons_of_mem _ hw), hK, fun q h => Or.inr h, Nat.le_refl _, Nat.le_refl _, Nat.zero_le _, Nat.zero_le _⟩ ⟨hr, hlocks, rfl, rfl, rfl, rfl⟩ s.heap [] _ ?_ (by rw [hlen]; exact hml.symm) hP hD va_S.rf
  rw [hlen]
  refine q_has_sub hl (fun q hq => ?_)
  unfold q_ent at hq
  rw [q_lvl_app, q_lvl_none, List.append_nil, q_lvl_args] at hq
  exact hq
end
section
-- LEAVES
def inI (w h : Nat) (a b : Int32) : Bool := decide (0 ≤ a ∧ a < nI w ∧ 0 ≤ b ∧ b < nI h)
theorem inI_f1 {w h : Nat} {a b : Int32} (h1 : a < 0) : inI w h a b = false := decide_eq_false (fun q => absurd q.1 (Int32.not_le.mpr h1))
theorem inI_f2 {w h : Nat} {a b : Int32} (h1 : nI w ≤ a) : inI w h a b = false := decide_eq_false (fun q => absurd q.2.1 (Int32.not_lt.mpr h1))
theorem inI_f3 {w h : Nat} {a b : Int32} (h1 : b < 0) : inI w h a b = false := decide_eq_false (fun q => absurd q.2.2.1 (Int32.not_le.mpr h1))
theorem inI_f4 {w h : Nat} {a b : Int32} (h1 : nI h ≤ b) : inI w h a b = false := decide_eq_false (fun q => absurd q.2.2.2 (Int32.not_lt.mpr h1))
theorem inI_t {w h : Nat} {a b : Int32} (h1 : ¬ a < 0) (h2 : ¬ nI w ≤ a) (h3 : ¬ b < 0) (h4 : ¬ nI h ≤ b) : inI w h a b = true := decide_eq_true ⟨Int32.not_lt.mp h1, Int32.not_le.mp h2, Int32.not_lt.mp h3, Int32.not_le.mp h4⟩
theorem inI_o {w h : Nat} {a b : Int32} (g : q_g w h) (h1 : inI w h a b = true) : ∃ i j : Nat, i < w ∧ j < h ∧ a = nI i ∧ b = nI j := by
  obtain ⟨h1, h2, h3, h4⟩ := of_decide_eq_true h1
  obtain ⟨i, hi, rfl⟩ := nI_of (Int32.not_lt.mpr h1)
  obtain ⟨j, hj, rfl⟩ := nI_of (Int32.not_lt.mpr h3)
  have hw := g.2.1
  have hh := g.2.2.2
  exact ⟨i, j, (nI_ltI hi (by omega)).mp h2, (nI_ltI hj (by omega)).mp h4, rfl, rfl⟩
theorem inI_n {w h i j : Nat} (g : q_g w h) (hi : i < w) (hj : j < h) : inI w h (nI i) (nI j) = true := by
  have hw := g.2.1
  have hh := g.2.2.2
  exact decide_eq_true ⟨nI_pos' (by omega), nI_lt hi (by omega), nI_pos' (by omega), nI_lt hj (by omega)⟩
theorem pl_lt {w h i j : Nat} (hi : i < w) (hj : j < h) : j * w + i < w * h := by
  have h1 : (j + 1) * w ≤ h * w := Nat.mul_le_mul_right _ hj
  rw [Nat.succ_mul, Nat.mul_comm h w] at h1
  omega
theorem pl_lt2 {w h i j : Nat} (hi : i < w) (hj : j < h) : w * j + i < w * h := by
  rw [Nat.mul_comm w j]; exact pl_lt hi hj
theorem pm_lt {w h i j : Nat} (g : q_g w h) (hi : i < w) (hj : j < h) : w * j + i < 256 := Nat.lt_of_lt_of_le (pl_lt2 hi hj) (q_gn g)
def pI (w : Nat) (a b : Int32) : Nat := b.toNatClampNeg * w + a.toNatClampNeg
theorem pI_n {w i j : Nat} (hi : i < 2 ^ 31) (hj : j < 2 ^ 31) : pI w (nI i) (nI j) = j * w + i := by unfold pI; rw [nI_clamp hi, nI_clamp hj]
def cntB (f : Nat → Bool) : Nat → Nat
  | 0 => 0
  | n + 1 => cntB f n + (if f n = true then 1 else 0)
theorem cntB_le (f : Nat → Bool) : ∀ n, cntB f n ≤ n
  | 0 => Nat.le_refl 0
  | n + 1 => by have := cntB_le f n; simp only [cntB]; split <;> omega
theorem cntB_t {f : Nat → Bool} {n : Nat} (h : f n = true) : cntB f (n + 1) = cntB f n + 1 := by simp [cntB, h]
theorem cntB_f {f : Nat → Bool} {n : Nat} (h : f n = false) : cntB f (n + 1) = cntB f n := by simp [cntB, h]
theorem cntB_congr {f g : Nat → Bool} : ∀ {n : Nat}, (∀ k, k < n → f k = g k) → cntB f n = cntB g n
  | 0, _ => rfl
  | n + 1, h => by simp only [cntB]; rw [cntB_congr (fun k hk => h k (by omega)), h n (by omega)]
def sumN (f : Nat → Nat) : Nat → Nat
  | 0 => 0
  | n + 1 => sumN f n + f n
def isP (a b c : Int32) : Bool := decide (0 ≤ a ∧ a ≤ c ∧ 0 ≤ b ∧ b ≤ c - a)
def clampS (a : Int32) : Nat := if a.toInt ≤ 1 then 1 else if 16 ≤ a.toInt then 16 else a.toInt.toNat
theorem clampS_in (a : Int32) : 1 ≤ clampS a ∧ clampS a ≤ 16 := by unfold clampS; split <;> (try split) <;> omega
theorem clampS_X (a : Int32) : (if nI 1 < (if a < nI 16 then a else nI 16) then (if a < nI 16 then a else nI 16) else nI 1) = nI (clampS a) := by
  have h1 : (nI 1).toInt = 1 := by decide +kernel
  have h16 : (nI 16).toInt = 16 := by decide +kernel
  have hc := clampS_in a
  by_cases hA : a.toInt < 16
  · rw [if_pos (show a < nI 16 by rw [Int32.lt_iff_toInt_lt, h16]; exact hA)]
    by_cases hB : 1 < a.toInt
    · rw [if_pos (show nI 1 < a by rw [Int32.lt_iff_toInt_lt, h1]; exact hB), ← Int32.toInt_inj, nI_toInt (by omega)]
      unfold clampS
      rw [if_neg (by omega), if_neg (by omega)]
      omega
    · rw [if_neg (show ¬ nI 1 < a by rw [Int32.lt_iff_toInt_lt, h1]; exact hB)]
      unfold clampS
      rw [if_pos (by omega)]
  · rw [if_neg (show ¬ a < nI 16 by rw [Int32.lt_iff_toInt_lt, h16]; exact hA), if_pos (by decide +kernel)]
    unfold clampS
    rw [if_neg (by omega), if_pos (by omega)]
def sp_X0_isInside : List q_V → List q_E → (Option q_V → List q_E → Prop) → Prop := fun as Wd K => ∃ (w : Nat) (h : Nat) (sam : Nat → Nat) (blk : Nat → Bool) (lost : Int64) (ogr : Nat → Nat) (came : Nat → Int32) (sums : Nat → Int64) (sqs : Nat → Int64) (mrk : Nat → Bool) (que : Nat → Nat) (qd : Nat) (a : Int32) (b : Int32), as = [.inr (.inr (some 0)), .inl a, .inl b] ∧ Wd = (xw w h sam blk lost ogr came sums sqs mrk que qd) ∧ (K (some (.inl (bI (inI w h a b)))) (xw w h sam blk lost ogr came sums sqs mrk que qd))
set_option maxHeartbeats 4000000 in
set_option maxRecDepth 20000 in
theorem ct_X0_isInside : q_Ct yX0_isInside cX0_isInside 3 (some .boolean) 0 0 sp_X0_isInside := by
  refine q_met (by decide) ?_
  intro x as Wd K hs ok fn
  obtain ⟨w, h, sam, blk, lost, ogr, came, sums, sqs, mrk, que, qd, a, b, rfl, rfl, hk⟩ := hs
  show q_W x 0 [some (.inr (.inr (some 0))), some (.inl a), some (.inl b)] [] (xw w h sam blk lost ogr came sums sqs mrk que qd)
  refine q_iload_n ok rfl dX0_isInside_0 ?_
  refine q_if_lt 28 ok dX0_isInside_1 (by decide) (fun h1 => ?_) (fun h1 => ?_)
  · refine q_iconstv (nI 0) ok (by decide) dX0_isInside_28 ?_
    exact q_zret ok fn dX0_isInside_29 (by decide) (by have ee := (by first | exact inI_f1 h1 | exact inI_f2 h9 | exact inI_f3 h13 | exact inI_f4 h21 : inI w h a b = false); rw [ee] at hk; exact hk)
  · refine q_iload_n ok rfl dX0_isInside_4 ?_
    refine q_aload_n ok rfl dX0_isInside_5 ?_
    refine xg_width ok dX0_isInside_6 ?_
    refine q_icmp_ge 28 ok dX0_isInside_9 (by decide) (fun h9 => ?_) (fun h9 => ?_)
    · refine q_iconstv (nI 0) ok (by decide) dX0_isInside_28 ?_
      exact q_zret ok fn dX0_isInside_29 (by decide) (by have ee := (by first | exact inI_f1 h1 | exact inI_f2 h9 | exact inI_f3 h13 | exact inI_f4 h21 : inI w h a b = false); rw [ee] at hk; exact hk)
    · refine q_iload_n ok rfl dX0_isInside_12 ?_
      refine q_if_lt 28 ok dX0_isInside_13 (by decide) (fun h13 => ?_) (fun h13 => ?_)
      · refine q_iconstv (nI 0) ok (by decide) dX0_isInside_28 ?_
        exact q_zret ok fn dX0_isInside_29 (by decide) (by have ee := (by first | exact inI_f1 h1 | exact inI_f2 h9 | exact inI_f3 h13 | exact inI_f4 h21 : inI w h a b = false); rw [ee] at hk; exact hk)
      · refine q_iload_n ok rfl dX0_isInside_16 ?_
        refine q_aload_n ok rfl dX0_isInside_17 ?_
        refine xg_height ok dX0_isInside_18 ?_
        refine q_icmp_ge 28 ok dX0_isInside_21 (by decide) (fun h21 => ?_) (fun h21 => ?_)
        · refine q_iconstv (nI 0) ok (by decide) dX0_isInside_28 ?_
          exact q_zret ok fn dX0_isInside_29 (by decide) (by have ee := (by first | exact inI_f1 h1 | exact inI_f2 h9 | exact inI_f3 h13 | exact inI_f4 h21 : inI w h a b = false); rw [ee] at hk; exact hk)
        · refine q_iconstv (nI 1) ok (by decide) dX0_isInside_24 ?_
          refine q_goto 29 ok dX0_isInside_25 (by decide) ?_
          exact q_zret ok fn dX0_isInside_29 (by decide) (by have ee : inI w h a b = true := inI_t h1 h9 h13 h21; rw [ee] at hk; exact hk)
theorem kX0_isInside {x : q_X} {cc : ByteArray} {fr lo pc : Nat} {lv : List (Option q_V)} {st : List q_V} {w : Nat} {h : Nat} {sam : Nat → Nat} {blk : Nat → Bool} {lost : Int64} {ogr : Nat → Nat} {came : Nat → Int32} {sums : Nat → Int64} {sqs : Nat → Int64} {mrk : Nat → Bool} {que : Nat → Nat} {qd : Nat} {a : Int32} {b : Int32} (hR : 0 + 1 ≤ fr ∧ 8 + (3 + 11) + 0 ≤ lo) (hst : (st.map (fun v => if q_nol (some v) then 1 else 2)).sum ≤ 8) (ok : q_ok x cc RX0 fr lo) (hd : decode cc pc = .ok (.invokevirtual 50, 3)) (kk : q_W x (pc + 3) lv ((.inl (bI (inI w h a b))) :: st) (xw w h sam blk lost ogr came sums sqs mrk que qd)) : q_W x pc lv (.inl b :: .inl a :: .inr (.inr (some 0)) :: st) (xw w h sam blk lost ogr came sums sqs mrk que qd) :=
  q_callV [.inl a, .inl b] ct_X0_isInside lkX0_X0_isInside dc_X0_isInside rfl ok rfl hR hst (Nat.le_of_ble_eq_true rfl) hd ⟨w, h, sam, blk, lost, ogr, came, sums, sqs, mrk, que, qd, a, b, rfl, rfl, kk⟩
def sp_X1_isIn : List q_V → List q_E → (Option q_V → List q_E → Prop) → Prop := fun as Wd K => ∃ (w : Nat) (h : Nat) (thr : Nat) (sam : Nat → Nat) (blk : Nat → Bool) (nxt : Nat → Bool) (came : Nat → Int32) (part : Nat → Int32) (rst : Int64) (a : Int32) (b : Int32), as = [.inr (.inr (some 0)), .inl a, .inl b] ∧ Wd = (mw w h thr sam blk nxt came part rst) ∧ (K (some (.inl (bI (inI w h a b)))) (mw w h thr sam blk nxt came part rst))
set_option maxHeartbeats 4000000 in
set_option maxRecDepth 20000 in
theorem ct_X1_isIn : q_Ct yX1_isIn cX1_isIn 3 (some .boolean) 0 0 sp_X1_isIn := by
  refine q_met (by decide) ?_
  intro x as Wd K hs ok fn
  obtain ⟨w, h, thr, sam, blk, nxt, came, part, rst, a, b, rfl, rfl, hk⟩ := hs
  show q_W x 0 [some (.inr (.inr (some 0))), some (.inl a), some (.inl b)] [] (mw w h thr sam blk nxt came part rst)
  refine q_iload_n ok rfl dX1_isIn_0 ?_
  refine q_if_lt 28 ok dX1_isIn_1 (by decide) (fun h1 => ?_) (fun h1 => ?_)
  · refine q_iconstv (nI 0) ok (by decide) dX1_isIn_28 ?_
    exact q_zret ok fn dX1_isIn_29 (by decide) (by have ee := (by first | exact inI_f1 h1 | exact inI_f2 h9 | exact inI_f3 h13 | exact inI_f4 h21 : inI w h a b = false); rw [ee] at hk; exact hk)
  · refine q_iload_n ok rfl dX1_isIn_4 ?_
    refine q_aload_n ok rfl dX1_isIn_5 ?_
    refine mg_width ok dX1_isIn_6 ?_
    refine q_icmp_ge 28 ok dX1_isIn_9 (by decide) (fun h9 => ?_) (fun h9 => ?_)
    · refine q_iconstv (nI 0) ok (by decide) dX1_isIn_28 ?_
      exact q_zret ok fn dX1_isIn_29 (by decide) (by have ee := (by first | exact inI_f1 h1 | exact inI_f2 h9 | exact inI_f3 h13 | exact inI_f4 h21 : inI w h a b = false); rw [ee] at hk; exact hk)
    · refine q_iload_n ok rfl dX1_isIn_12 ?_
      refine q_if_lt 28 ok dX1_isIn_13 (by decide) (fun h13 => ?_) (fun h13 => ?_)
      · refine q_iconstv (nI 0) ok (by decide) dX1_isIn_28 ?_
        exact q_zret ok fn dX1_isIn_29 (by decide) (by have ee := (by first | exact inI_f1 h1 | exact inI_f2 h9 | exact inI_f3 h13 | exact inI_f4 h21 : inI w h a b = false); rw [ee] at hk; exact hk)
      · refine q_iload_n ok rfl dX1_isIn_16 ?_
        refine q_aload_n ok rfl dX1_isIn_17 ?_
        refine mg_height ok dX1_isIn_18 ?_
        refine q_icmp_ge 28 ok dX1_isIn_21 (by decide) (fun h21 => ?_) (fun h21 => ?_)
        · refine q_iconstv (nI 0) ok (by decide) dX1_isIn_28 ?_
          exact q_zret ok fn dX1_isIn_29 (by decide) (by have ee := (by first | exact inI_f1 h1 | exact inI_f2 h9 | exact inI_f3 h13 | exact inI_f4 h21 : inI w h a b = false); rw [ee] at hk; exact hk)
        · refine q_iconstv (nI 1) ok (by decide) dX1_isIn_24 ?_
          refine q_goto 29 ok dX1_isIn_25 (by decide) ?_
          exact q_zret ok fn dX1_isIn_29 (by decide) (by have ee : inI w h a b = true := inI_t h1 h9 h13 h21; rw [ee] at hk; exact hk)
theorem kX1_isIn {x : q_X} {cc : ByteArray} {fr lo pc : Nat} {lv : List (Option q_V)} {st : List q_V} {w : Nat} {h : Nat} {thr : Nat} {sam : Nat → Nat} {blk : Nat → Bool} {nxt : Nat → Bool} {came : Nat → Int32} {part : Nat → Int32} {rst : Int64} {a : Int32} {b : Int32} (hR : 0 + 1 ≤ fr ∧ 8 + (3 + 11) + 0 ≤ lo) (hst : (st.map (fun v => if q_nol (some v) then 1 else 2)).sum ≤ 8) (ok : q_ok x cc RX1 fr lo) (hd : decode cc pc = .ok (.invokevirtual 36, 3)) (kk : q_W x (pc + 3) lv ((.inl (bI (inI w h a b))) :: st) (mw w h thr sam blk nxt came part rst)) : q_W x pc lv (.inl b :: .inl a :: .inr (.inr (some 0)) :: st) (mw w h thr sam blk nxt came part rst) :=
  q_callV [.inl a, .inl b] ct_X1_isIn lkX1_X1_isIn dc_X1_isIn rfl ok rfl hR hst (Nat.le_of_ble_eq_true rfl) hd ⟨w, h, thr, sam, blk, nxt, came, part, rst, a, b, rfl, rfl, kk⟩
def sp_X0_placeOf : List q_V → List q_E → (Option q_V → List q_E → Prop) → Prop := fun as Wd K => ∃ (w : Nat) (h : Nat) (sam : Nat → Nat) (blk : Nat → Bool) (lost : Int64) (ogr : Nat → Nat) (came : Nat → Int32) (sums : Nat → Int64) (sqs : Nat → Int64) (mrk : Nat → Bool) (que : Nat → Nat) (qd : Nat) (a : Nat) (b : Nat), as = [.inr (.inr (some 0)), .inl (nI a), .inl (nI b)] ∧ Wd = (xw w h sam blk lost ogr came sums sqs mrk que qd) ∧ (K (some (.inl (nI (b * w + a)))) (xw w h sam blk lost ogr came sums sqs mrk que qd))
set_option maxHeartbeats 4000000 in
set_option maxRecDepth 20000 in
theorem ct_X0_placeOf : q_Ct yX0_placeOf cX0_placeOf 3 (some .int) 0 0 sp_X0_placeOf := by
  refine q_met (by decide) ?_
  intro x as Wd K hs ok fn
  obtain ⟨w, h, sam, blk, lost, ogr, came, sums, sqs, mrk, que, qd, a, b, rfl, rfl, hk⟩ := hs
  show q_W x 0 [some (.inr (.inr (some 0))), some (.inl (nI a)), some (.inl (nI b))] [] (xw w h sam blk lost ogr came sums sqs mrk que qd)
  refine q_iload_n ok rfl dX0_placeOf_0 ?_
  refine q_aload_n ok rfl dX0_placeOf_1 ?_
  refine xg_width ok dX0_placeOf_2 ?_
  refine q_imulN ok dX0_placeOf_5 ?_
  refine q_iload_n ok rfl dX0_placeOf_6 ?_
  refine q_iaddN ok dX0_placeOf_7 ?_
  exact q_iret ok fn dX0_placeOf_8 hk
theorem kX0_placeOf {x : q_X} {cc : ByteArray} {fr lo pc : Nat} {lv : List (Option q_V)} {st : List q_V} {w : Nat} {h : Nat} {sam : Nat → Nat} {blk : Nat → Bool} {lost : Int64} {ogr : Nat → Nat} {came : Nat → Int32} {sums : Nat → Int64} {sqs : Nat → Int64} {mrk : Nat → Bool} {que : Nat → Nat} {qd : Nat} {a : Nat} {b : Nat} (hR : 0 + 1 ≤ fr ∧ 8 + (3 + 11) + 0 ≤ lo) (hst : (st.map (fun v => if q_nol (some v) then 1 else 2)).sum ≤ 8) (ok : q_ok x cc RX0 fr lo) (hd : decode cc pc = .ok (.invokevirtual 66, 3)) (kk : q_W x (pc + 3) lv ((.inl (nI (b * w + a))) :: st) (xw w h sam blk lost ogr came sums sqs mrk que qd)) : q_W x pc lv (.inl (nI b) :: .inl (nI a) :: .inr (.inr (some 0)) :: st) (xw w h sam blk lost ogr came sums sqs mrk que qd) :=
  q_callV [.inl (nI a), .inl (nI b)] ct_X0_placeOf lkX0_X0_placeOf dc_X0_placeOf rfl ok rfl hR hst (Nat.le_of_ble_eq_true rfl) hd ⟨w, h, sam, blk, lost, ogr, came, sums, sqs, mrk, que, qd, a, b, rfl, rfl, kk⟩
def sp_X0_cornerOf : List q_V → List q_E → (Option q_V → List q_E → Prop) → Prop := fun as Wd K => ∃ (w : Nat) (h : Nat) (sam : Nat → Nat) (blk : Nat → Bool) (lost : Int64) (ogr : Nat → Nat) (came : Nat → Int32) (sums : Nat → Int64) (sqs : Nat → Int64) (mrk : Nat → Bool) (que : Nat → Nat) (qd : Nat) (a : Nat) (b : Nat), as = [.inr (.inr (some 0)), .inl (nI a), .inl (nI b)] ∧ Wd = (xw w h sam blk lost ogr came sums sqs mrk que qd) ∧ (K (some (.inl (nI (b * (w + 1) + a)))) (xw w h sam blk lost ogr came sums sqs mrk que qd))
set_option maxHeartbeats 4000000 in
set_option maxRecDepth 20000 in
theorem ct_X0_cornerOf : q_Ct yX0_cornerOf cX0_cornerOf 3 (some .int) 0 0 sp_X0_cornerOf := by
  refine q_met (by decide) ?_
  intro x as Wd K hs ok fn
  obtain ⟨w, h, sam, blk, lost, ogr, came, sums, sqs, mrk, que, qd, a, b, rfl, rfl, hk⟩ := hs
  show q_W x 0 [some (.inr (.inr (some 0))), some (.inl (nI a)), some (.inl (nI b))] [] (xw w h sam blk lost ogr came sums sqs mrk que qd)
  refine q_iload_n ok rfl dX0_cornerOf_0 ?_
  refine q_aload_n ok rfl dX0_cornerOf_1 ?_
  refine xg_width ok dX0_cornerOf_2 ?_
  refine q_iconstv (nI 1) ok (by decide) dX0_cornerOf_5 ?_
  refine q_iaddN ok dX0_cornerOf_6 ?_
  refine q_imulN ok dX0_cornerOf_7 ?_
  refine q_iload_n ok rfl dX0_cornerOf_8 ?_
  refine q_iaddN ok dX0_cornerOf_9 ?_
  exact q_iret ok fn dX0_cornerOf_10 hk
theorem kX0_cornerOf {x : q_X} {cc : ByteArray} {fr lo pc : Nat} {lv : List (Option q_V)} {st : List q_V} {w : Nat} {h : Nat} {sam : Nat → Nat} {blk : Nat → Bool} {lost : Int64} {ogr : Nat → Nat} {came : Nat → Int32} {sums : Nat → Int64} {sqs : Nat → Int64} {mrk : Nat → Bool} {que : Nat → Nat} {qd : Nat} {a : Nat} {b : Nat} (hR : 0 + 1 ≤ fr ∧ 8 + (3 + 11) + 0 ≤ lo) (hst : (st.map (fun v => if q_nol (some v) then 1 else 2)).sum ≤ 8) (ok : q_ok x cc RX0 fr lo) (hd : decode cc pc = .ok (.invokevirtual 178, 3)) (kk : q_W x (pc + 3) lv ((.inl (nI (b * (w + 1) + a))) :: st) (xw w h sam blk lost ogr came sums sqs mrk que qd)) : q_W x pc lv (.inl (nI b) :: .inl (nI a) :: .inr (.inr (some 0)) :: st) (xw w h sam blk lost ogr came sums sqs mrk que qd) :=
  q_callV [.inl (nI a), .inl (nI b)] ct_X0_cornerOf lkX0_X0_cornerOf dc_X0_cornerOf rfl ok rfl hR hst (Nat.le_of_ble_eq_true rfl) hd ⟨w, h, sam, blk, lost, ogr, came, sums, sqs, mrk, que, qd, a, b, rfl, rfl, kk⟩
def sp_X0_columnOf : List q_V → List q_E → (Option q_V → List q_E → Prop) → Prop := fun as Wd K => ∃ (w : Nat) (h : Nat) (sam : Nat → Nat) (blk : Nat → Bool) (lost : Int64) (ogr : Nat → Nat) (came : Nat → Int32) (sums : Nat → Int64) (sqs : Nat → Int64) (mrk : Nat → Bool) (que : Nat → Nat) (qd : Nat) (a : Nat), (q_g w h) ∧ (a < 2 ^ 31) ∧ as = [.inr (.inr (some 0)), .inl (nI a)] ∧ Wd = (xw w h sam blk lost ogr came sums sqs mrk que qd) ∧ (K (some (.inl (nI (a % w)))) (xw w h sam blk lost ogr came sums sqs mrk que qd))
set_option maxHeartbeats 4000000 in
set_option maxRecDepth 20000 in
theorem ct_X0_columnOf : q_Ct yX0_columnOf cX0_columnOf 2 (some .int) 0 0 sp_X0_columnOf := by
  refine q_met (by decide) ?_
  intro x as Wd K hs ok fn
  obtain ⟨w, h, sam, blk, lost, ogr, came, sums, sqs, mrk, que, qd, a, g, ha, rfl, rfl, hk⟩ := hs
  show q_W x 0 [some (.inr (.inr (some 0))), some (.inl (nI a))] [] (xw w h sam blk lost ogr came sums sqs mrk que qd)
  have g1 := g.1; have g2 := g.2.1
  refine q_iload_n ok rfl dX0_columnOf_0 ?_
  refine q_aload_n ok rfl dX0_columnOf_1 ?_
  refine xg_width ok dX0_columnOf_2 ?_
  refine q_iremN (by omega) (by omega) (by omega) ok dX0_columnOf_5 ?_
  exact q_iret ok fn dX0_columnOf_6 hk
theorem kX0_columnOf {x : q_X} {cc : ByteArray} {fr lo pc : Nat} {lv : List (Option q_V)} {st : List q_V} {w : Nat} {h : Nat} {sam : Nat → Nat} {blk : Nat → Bool} {lost : Int64} {ogr : Nat → Nat} {came : Nat → Int32} {sums : Nat → Int64} {sqs : Nat → Int64} {mrk : Nat → Bool} {que : Nat → Nat} {qd : Nat} {a : Nat} (g : q_g w h) (ha : a < 2 ^ 31) (hR : 0 + 1 ≤ fr ∧ 8 + (2 + 11) + 0 ≤ lo) (hst : (st.map (fun v => if q_nol (some v) then 1 else 2)).sum ≤ 8) (ok : q_ok x cc RX0 fr lo) (hd : decode cc pc = .ok (.invokevirtual 128, 3)) (kk : q_W x (pc + 3) lv ((.inl (nI (a % w))) :: st) (xw w h sam blk lost ogr came sums sqs mrk que qd)) : q_W x pc lv (.inl (nI a) :: .inr (.inr (some 0)) :: st) (xw w h sam blk lost ogr came sums sqs mrk que qd) :=
  q_callV [.inl (nI a)] ct_X0_columnOf lkX0_X0_columnOf dc_X0_columnOf rfl ok rfl hR hst (Nat.le_of_ble_eq_true rfl) hd ⟨w, h, sam, blk, lost, ogr, came, sums, sqs, mrk, que, qd, a, g, ha, rfl, rfl, kk⟩
def sp_X0_rowOf : List q_V → List q_E → (Option q_V → List q_E → Prop) → Prop := fun as Wd K => ∃ (w : Nat) (h : Nat) (sam : Nat → Nat) (blk : Nat → Bool) (lost : Int64) (ogr : Nat → Nat) (came : Nat → Int32) (sums : Nat → Int64) (sqs : Nat → Int64) (mrk : Nat → Bool) (que : Nat → Nat) (qd : Nat) (a : Nat), (q_g w h) ∧ (a < 2 ^ 31) ∧ as = [.inr (.inr (some 0)), .inl (nI a)] ∧ Wd = (xw w h sam blk lost ogr came sums sqs mrk que qd) ∧ (K (some (.inl (nI (a / w)))) (xw w h sam blk lost ogr came sums sqs mrk que qd))
set_option maxHeartbeats 4000000 in
set_option maxRecDepth 20000 in
theorem ct_X0_rowOf : q_Ct yX0_rowOf cX0_rowOf 2 (some .int) 0 0 sp_X0_rowOf := by
  refine q_met (by decide) ?_
  intro x as Wd K hs ok fn
  obtain ⟨w, h, sam, blk, lost, ogr, came, sums, sqs, mrk, que, qd, a, g, ha, rfl, rfl, hk⟩ := hs
  show q_W x 0 [some (.inr (.inr (some 0))), some (.inl (nI a))] [] (xw w h sam blk lost ogr came sums sqs mrk que qd)
  have g1 := g.1; have g2 := g.2.1
  refine q_iload_n ok rfl dX0_rowOf_0 ?_
  refine q_aload_n ok rfl dX0_rowOf_1 ?_
  refine xg_width ok dX0_rowOf_2 ?_
  refine q_idivN (by omega) (by omega) (by omega) ok dX0_rowOf_5 ?_
  exact q_iret ok fn dX0_rowOf_6 hk
theorem kX0_rowOf {x : q_X} {cc : ByteArray} {fr lo pc : Nat} {lv : List (Option q_V)} {st : List q_V} {w : Nat} {h : Nat} {sam : Nat → Nat} {blk : Nat → Bool} {lost : Int64} {ogr : Nat → Nat} {came : Nat → Int32} {sums : Nat → Int64} {sqs : Nat → Int64} {mrk : Nat → Bool} {que : Nat → Nat} {qd : Nat} {a : Nat} (g : q_g w h) (ha : a < 2 ^ 31) (hR : 0 + 1 ≤ fr ∧ 8 + (2 + 11) + 0 ≤ lo) (hst : (st.map (fun v => if q_nol (some v) then 1 else 2)).sum ≤ 8) (ok : q_ok x cc RX0 fr lo) (hd : decode cc pc = .ok (.invokevirtual 131, 3)) (kk : q_W x (pc + 3) lv ((.inl (nI (a / w))) :: st) (xw w h sam blk lost ogr came sums sqs mrk que qd)) : q_W x pc lv (.inl (nI a) :: .inr (.inr (some 0)) :: st) (xw w h sam blk lost ogr came sums sqs mrk que qd) :=
  q_callV [.inl (nI a)] ct_X0_rowOf lkX0_X0_rowOf dc_X0_rowOf rfl ok rfl hR hst (Nat.le_of_ble_eq_true rfl) hd ⟨w, h, sam, blk, lost, ogr, came, sums, sqs, mrk, que, qd, a, g, ha, rfl, rfl, kk⟩
def sp_X0_nearestSide : List q_V → List q_E → (Option q_V → List q_E → Prop) → Prop := fun as Wd K => ∃ (a : Int32), as = [.inl a] ∧ (K (some (.inl (nI (clampS a)))) Wd)
set_option maxHeartbeats 4000000 in
set_option maxRecDepth 20000 in
theorem ct_X0_nearestSide : q_Ct yX0_nearestSide cX0_nearestSide 1 (some .int) 1 21 sp_X0_nearestSide := by
  refine q_met (by decide) ?_
  intro x as Wd K hs ok fn
  obtain ⟨a, rfl, hk⟩ := hs
  show q_W x 0 [some (.inl a)] [] Wd
  refine q_iconstv (nI 1) ok (by decide) dX0_nearestSide_0 ?_
  refine q_bipushv (nI 16) ok (by decide) dX0_nearestSide_1 ?_
  refine q_iload_n ok rfl dX0_nearestSide_3 ?_
  refine q_mmin lkX0_min (by decide) (Nat.le_of_ble_eq_true rfl) ok dX0_nearestSide_4 ?_
  refine q_mmax lkX0_max (by decide) (Nat.le_of_ble_eq_true rfl) ok dX0_nearestSide_7 ?_
  exact q_iret ok fn dX0_nearestSide_10 (by rw [clampS_X]; exact hk)
theorem kX0_nearestSide {x : q_X} {cc : ByteArray} {fr lo pc : Nat} {lv : List (Option q_V)} {st : List q_V} {a : Int32} {Wd : List q_E} (hR : 1 + 1 ≤ fr ∧ 8 + (1 + 11) + 21 ≤ lo) (hst : (st.map (fun v => if q_nol (some v) then 1 else 2)).sum ≤ 8) (ok : q_ok x cc RX0 fr lo) (hd : decode cc pc = .ok (.invokestatic 7, 3)) (kk : q_W x (pc + 3) lv ((.inl (nI (clampS a))) :: st) Wd) : q_W x pc lv (.inl a :: st) Wd :=
  q_callS [.inl a] ct_X0_nearestSide lkX0_X0_nearestSide dc_X0_nearestSide ok hR hst (Nat.le_of_ble_eq_true rfl) hd ⟨a, rfl, kk⟩
def sp_X0_isPart : List q_V → List q_E → (Option q_V → List q_E → Prop) → Prop := fun as Wd K => ∃ (a : Int32) (b : Int32) (c : Int32), as = [.inl a, .inl b, .inl c] ∧ (K (some (.inl (bI (isP a b c)))) Wd)
set_option maxHeartbeats 4000000 in
set_option maxRecDepth 20000 in
theorem ct_X0_isPart : q_Ct yX0_isPart cX0_isPart 3 (some .boolean) 0 0 sp_X0_isPart := by
  refine q_met (by decide) ?_
  intro x as Wd K hs ok fn
  obtain ⟨a, b, c, rfl, hk⟩ := hs
  show q_W x 0 [some (.inl a), some (.inl b), some (.inl c)] [] Wd
  refine q_iload_n ok rfl dX0_isPart_0 ?_
  refine q_if_lt 24 ok dX0_isPart_1 (by decide) (fun h1 => ?_) (fun h1 => ?_)
  · refine q_iconstv (nI 0) ok (by decide) dX0_isPart_24 ?_
    exact q_zret ok fn dX0_isPart_25 (by decide) (by have ee := (by first | exact decide_eq_false (fun q => absurd q.1 (Int32.not_le.mpr h1)) | exact decide_eq_false (fun q => absurd q.2.1 (Int32.not_le.mpr h6)) | exact decide_eq_false (fun q => absurd q.2.2.1 (Int32.not_le.mpr h10)) | exact decide_eq_false (fun q => absurd q.2.2.2 (Int32.not_le.mpr h17)) : isP a b c = false); rw [ee] at hk; exact hk)
  · refine q_iload_n ok rfl dX0_isPart_4 ?_
    refine q_iload_n ok rfl dX0_isPart_5 ?_
    refine q_icmp_gt 24 ok dX0_isPart_6 (by decide) (fun h6 => ?_) (fun h6 => ?_)
    · refine q_iconstv (nI 0) ok (by decide) dX0_isPart_24 ?_
      exact q_zret ok fn dX0_isPart_25 (by decide) (by have ee := (by first | exact decide_eq_false (fun q => absurd q.1 (Int32.not_le.mpr h1)) | exact decide_eq_false (fun q => absurd q.2.1 (Int32.not_le.mpr h6)) | exact decide_eq_false (fun q => absurd q.2.2.1 (Int32.not_le.mpr h10)) | exact decide_eq_false (fun q => absurd q.2.2.2 (Int32.not_le.mpr h17)) : isP a b c = false); rw [ee] at hk; exact hk)
    · refine q_iload_n ok rfl dX0_isPart_9 ?_
      refine q_if_lt 24 ok dX0_isPart_10 (by decide) (fun h10 => ?_) (fun h10 => ?_)
      · refine q_iconstv (nI 0) ok (by decide) dX0_isPart_24 ?_
        exact q_zret ok fn dX0_isPart_25 (by decide) (by have ee := (by first | exact decide_eq_false (fun q => absurd q.1 (Int32.not_le.mpr h1)) | exact decide_eq_false (fun q => absurd q.2.1 (Int32.not_le.mpr h6)) | exact decide_eq_false (fun q => absurd q.2.2.1 (Int32.not_le.mpr h10)) | exact decide_eq_false (fun q => absurd q.2.2.2 (Int32.not_le.mpr h17)) : isP a b c = false); rw [ee] at hk; exact hk)
      · refine q_iload_n ok rfl dX0_isPart_13 ?_
        refine q_iload_n ok rfl dX0_isPart_14 ?_
        refine q_iload_n ok rfl dX0_isPart_15 ?_
        refine q_isub ok dX0_isPart_16 ?_
        refine q_icmp_gt 24 ok dX0_isPart_17 (by decide) (fun h17 => ?_) (fun h17 => ?_)
        · refine q_iconstv (nI 0) ok (by decide) dX0_isPart_24 ?_
          exact q_zret ok fn dX0_isPart_25 (by decide) (by have ee := (by first | exact decide_eq_false (fun q => absurd q.1 (Int32.not_le.mpr h1)) | exact decide_eq_false (fun q => absurd q.2.1 (Int32.not_le.mpr h6)) | exact decide_eq_false (fun q => absurd q.2.2.1 (Int32.not_le.mpr h10)) | exact decide_eq_false (fun q => absurd q.2.2.2 (Int32.not_le.mpr h17)) : isP a b c = false); rw [ee] at hk; exact hk)
        · refine q_iconstv (nI 1) ok (by decide) dX0_isPart_20 ?_
          refine q_goto 25 ok dX0_isPart_21 (by decide) ?_
          exact q_zret ok fn dX0_isPart_25 (by decide) (by have ee : isP a b c = true := (decide_eq_true ⟨Int32.not_lt.mp h1, Int32.not_lt.mp h6, Int32.not_lt.mp h10, Int32.not_lt.mp h17⟩ : isP a b c = true); rw [ee] at hk; exact hk)
theorem kX0_isPart {x : q_X} {cc : ByteArray} {fr lo pc : Nat} {lv : List (Option q_V)} {st : List q_V} {a : Int32} {b : Int32} {c : Int32} {Wd : List q_E} (hR : 0 + 1 ≤ fr ∧ 8 + (3 + 11) + 0 ≤ lo) (hst : (st.map (fun v => if q_nol (some v) then 1 else 2)).sum ≤ 8) (ok : q_ok x cc RX0 fr lo) (hd : decode cc pc = .ok (.invokestatic 147, 3)) (kk : q_W x (pc + 3) lv ((.inl (bI (isP a b c))) :: st) Wd) : q_W x pc lv (.inl c :: .inl b :: .inl a :: st) Wd :=
  q_callS [.inl a, .inl b, .inl c] ct_X0_isPart lkX0_X0_isPart dc_X0_isPart ok hR hst (Nat.le_of_ble_eq_true rfl) hd ⟨a, b, c, rfl, kk⟩
def sp_J9_floorMod_7cf53 : List q_V → List q_E → (Option q_V → List q_E → Prop) → Prop := fun as Wd K => ∃ (a : Int32), as = [.inl a, .inl (nI 256)] ∧ (K (some (.inl (nI (lo8 a)))) Wd)
set_option maxHeartbeats 4000000 in
set_option maxRecDepth 20000 in
theorem ct_J9_floorMod_7cf53 : q_Ct yJ9_floorMod_7cf53 cJ9_floorMod_7cf53 3 (some .int) 0 0 sp_J9_floorMod_7cf53 := by
  refine q_metF (by decide +kernel) ?_
  intro x as Wd K hs ok fn
  obtain ⟨a, rfl, hk⟩ := hs
  show q_W x 0 [some (.inl a), some (.inl (nI 256)), none] [] Wd
  refine q_iload_n ok rfl dJ9_floorMod_7cf53_0 ?_
  refine q_iload_n ok rfl dJ9_floorMod_7cf53_1 ?_
  refine q_irem ok (by decide) dJ9_floorMod_7cf53_2 ?_
  refine q_istore_2 ok rfl dJ9_floorMod_7cf53_3 ?_
  refine q_iload_n ok rfl dJ9_floorMod_7cf53_4 ?_
  refine q_iload_n ok rfl dJ9_floorMod_7cf53_5 ?_
  refine q_ixor ok dJ9_floorMod_7cf53_6 ?_
  refine q_if_ge 18 ok dJ9_floorMod_7cf53_7 (by decide) (fun h7 => ?_) (fun h7 => ?_)
  · refine q_iload_n ok rfl dJ9_floorMod_7cf53_18 ?_
    exact q_iret ok fn dJ9_floorMod_7cf53_19 (by first | (rw [fm_pos (fun q => absurd h7 (Int32.not_le.mpr ((fm_sgn a).mpr q)))]; exact hk) | (rw [fm_zero h11]; exact hk) | (rw [fm_neg ((fm_sgn a).mp (Int32.not_le.mp h7)) h11]; exact hk))
  · refine q_iload_n ok rfl dJ9_floorMod_7cf53_10 ?_
    refine q_if_eq 18 ok dJ9_floorMod_7cf53_11 (by decide) (fun h11 => ?_) (fun h11 => ?_)
    · refine q_iload_n ok rfl dJ9_floorMod_7cf53_18 ?_
      exact q_iret ok fn dJ9_floorMod_7cf53_19 (by first | (rw [fm_pos (fun q => absurd h7 (Int32.not_le.mpr ((fm_sgn a).mpr q)))]; exact hk) | (rw [fm_zero h11]; exact hk) | (rw [fm_neg ((fm_sgn a).mp (Int32.not_le.mp h7)) h11]; exact hk))
    · refine q_iload_n ok rfl dJ9_floorMod_7cf53_14 ?_
      refine q_iload_n ok rfl dJ9_floorMod_7cf53_15 ?_
      refine q_iadd ok dJ9_floorMod_7cf53_16 ?_
      exact q_iret ok fn dJ9_floorMod_7cf53_17 (by first | (rw [fm_pos (fun q => absurd h7 (Int32.not_le.mpr ((fm_sgn a).mpr q)))]; exact hk) | (rw [fm_zero h11]; exact hk) | (rw [fm_neg ((fm_sgn a).mp (Int32.not_le.mp h7)) h11]; exact hk))
theorem kJ9_floorMod_7cf53 {x : q_X} {cc : ByteArray} {fr lo pc : Nat} {lv : List (Option q_V)} {st : List q_V} {a : Int32} {Wd : List q_E} (hR : 0 + 1 ≤ fr ∧ 8 + (3 + 11) + 0 ≤ lo) (hst : (st.map (fun v => if q_nol (some v) then 1 else 2)).sum ≤ 8) (ok : q_ok x cc RX0 fr lo) (hd : decode cc pc = .ok (.invokestatic 70, 3)) (kk : q_W x (pc + 3) lv ((.inl (nI (lo8 a))) :: st) Wd) : q_W x pc lv (.inl (nI 256) :: .inl a :: st) Wd :=
  q_callS [.inl a, .inl (nI 256)] ct_J9_floorMod_7cf53 lkX0_J9_floorMod_7cf53 dc_J9_floorMod_7cf53 ok hR hst (Nat.le_of_ble_eq_true rfl) hd ⟨a, rfl, kk⟩
def sp_X1_all : List q_V → List q_E → (Option q_V → List q_E → Prop) → Prop := fun as Wd K => ∃ (w : Nat) (h : Nat) (thr : Nat) (sam : Nat → Nat) (blk : Nat → Bool) (nxt : Nat → Bool) (came : Nat → Int32) (part : Nat → Int32) (rst : Int64), as = [.inr (.inr (some 0))] ∧ Wd = (mw w h thr sam blk nxt came part rst) ∧ (K (some (.inl (nI (w * h)))) (mw w h thr sam blk nxt came part rst))
set_option maxHeartbeats 4000000 in
set_option maxRecDepth 20000 in
theorem ct_X1_all : q_Ct yX1_all cX1_all 1 (some .int) 0 0 sp_X1_all := by
  refine q_met (by decide) ?_
  intro x as Wd K hs ok fn
  obtain ⟨w, h, thr, sam, blk, nxt, came, part, rst, rfl, rfl, hk⟩ := hs
  show q_W x 0 [some (.inr (.inr (some 0)))] [] (mw w h thr sam blk nxt came part rst)
  refine q_aload_n ok rfl dX1_all_0 ?_
  refine mg_width ok dX1_all_1 ?_
  refine q_aload_n ok rfl dX1_all_4 ?_
  refine mg_height ok dX1_all_5 ?_
  refine q_imulN ok dX1_all_8 ?_
  exact q_iret ok fn dX1_all_9 hk
theorem kX1_all {x : q_X} {cc : ByteArray} {fr lo pc : Nat} {lv : List (Option q_V)} {st : List q_V} {w : Nat} {h : Nat} {thr : Nat} {sam : Nat → Nat} {blk : Nat → Bool} {nxt : Nat → Bool} {came : Nat → Int32} {part : Nat → Int32} {rst : Int64} (hR : 0 + 1 ≤ fr ∧ 8 + (1 + 11) + 0 ≤ lo) (hst : (st.map (fun v => if q_nol (some v) then 1 else 2)).sum ≤ 8) (ok : q_ok x cc RX1 fr lo) (hd : decode cc pc = .ok (.invokevirtual 40, 3)) (kk : q_W x (pc + 3) lv ((.inl (nI (w * h))) :: st) (mw w h thr sam blk nxt came part rst)) : q_W x pc lv (.inr (.inr (some 0)) :: st) (mw w h thr sam blk nxt came part rst) :=
  q_callV [] ct_X1_all lkX1_X1_all dc_X1_all rfl ok rfl hR hst (Nat.le_of_ble_eq_true rfl) hd ⟨w, h, thr, sam, blk, nxt, came, part, rst, rfl, rfl, kk⟩
def sp_X1_thrown : List q_V → List q_E → (Option q_V → List q_E → Prop) → Prop := fun as Wd K => ∃ (w : Nat) (h : Nat) (thr : Nat) (sam : Nat → Nat) (blk : Nat → Bool) (nxt : Nat → Bool) (came : Nat → Int32) (part : Nat → Int32) (rst : Int64), as = [.inr (.inr (some 0))] ∧ Wd = (mw w h thr sam blk nxt came part rst) ∧ (K (some (.inl (nI thr))) (mw w h thr sam blk nxt came part rst))
set_option maxHeartbeats 4000000 in
set_option maxRecDepth 20000 in
theorem ct_X1_thrown : q_Ct yX1_thrown cX1_thrown 1 (some .int) 0 0 sp_X1_thrown := by
  refine q_met (by decide) ?_
  intro x as Wd K hs ok fn
  obtain ⟨w, h, thr, sam, blk, nxt, came, part, rst, rfl, rfl, hk⟩ := hs
  show q_W x 0 [some (.inr (.inr (some 0)))] [] (mw w h thr sam blk nxt came part rst)
  refine q_aload_n ok rfl dX1_thrown_0 ?_
  refine mg_thrown ok dX1_thrown_1 ?_
  exact q_iret ok fn dX1_thrown_4 hk
theorem kX1_thrown {x : q_X} {cc : ByteArray} {fr lo pc : Nat} {lv : List (Option q_V)} {st : List q_V} {w : Nat} {h : Nat} {thr : Nat} {sam : Nat → Nat} {blk : Nat → Bool} {nxt : Nat → Bool} {came : Nat → Int32} {part : Nat → Int32} {rst : Int64} (hR : 0 + 1 ≤ fr ∧ 8 + (1 + 11) + 0 ≤ lo) (hst : (st.map (fun v => if q_nol (some v) then 1 else 2)).sum ≤ 8) (ok : q_ok x cc RL fr lo) (hd : decode cc pc = .ok (.invokevirtual 60, 3)) (kk : q_W x (pc + 3) lv ((.inl (nI thr)) :: st) (mw w h thr sam blk nxt came part rst)) : q_W x pc lv (.inr (.inr (some 0)) :: st) (mw w h thr sam blk nxt came part rst) :=
  q_callV [] ct_X1_thrown lkL_X1_thrown dc_X1_thrown rfl ok rfl hR hst (Nat.le_of_ble_eq_true rfl) hd ⟨w, h, thr, sam, blk, nxt, came, part, rst, rfl, rfl, kk⟩
def sp_X0_rest : List q_V → List q_E → (Option q_V → List q_E → Prop) → Prop := fun as Wd K => ∃ (w : Nat) (h : Nat) (sam : Nat → Nat) (blk : Nat → Bool) (lost : Int64) (ogr : Nat → Nat) (came : Nat → Int32) (sums : Nat → Int64) (sqs : Nat → Int64) (mrk : Nat → Bool) (que : Nat → Nat) (qd : Nat), as = [.inr (.inr (some 0))] ∧ Wd = (xw w h sam blk lost ogr came sums sqs mrk que qd) ∧ (K (some (.inr (.inl lost))) (xw w h sam blk lost ogr came sums sqs mrk que qd))
set_option maxHeartbeats 4000000 in
set_option maxRecDepth 20000 in
theorem ct_X0_rest : q_Ct yX0_rest cX0_rest 1 (some .long) 0 0 sp_X0_rest := by
  refine q_met (by decide) ?_
  intro x as Wd K hs ok fn
  obtain ⟨w, h, sam, blk, lost, ogr, came, sums, sqs, mrk, que, qd, rfl, rfl, hk⟩ := hs
  show q_W x 0 [some (.inr (.inr (some 0)))] [] (xw w h sam blk lost ogr came sums sqs mrk que qd)
  refine q_aload_n ok rfl dX0_rest_0 ?_
  refine xg_lost ok dX0_rest_1 ?_
  exact q_lret ok fn dX0_rest_4 hk
theorem kX0_rest {x : q_X} {cc : ByteArray} {fr lo pc : Nat} {lv : List (Option q_V)} {st : List q_V} {w : Nat} {h : Nat} {sam : Nat → Nat} {blk : Nat → Bool} {lost : Int64} {ogr : Nat → Nat} {came : Nat → Int32} {sums : Nat → Int64} {sqs : Nat → Int64} {mrk : Nat → Bool} {que : Nat → Nat} {qd : Nat} (hR : 0 + 1 ≤ fr ∧ 8 + (1 + 11) + 0 ≤ lo) (hst : (st.map (fun v => if q_nol (some v) then 1 else 2)).sum ≤ 8) (ok : q_ok x cc RL fr lo) (hd : decode cc pc = .ok (.invokevirtual 80, 3)) (kk : q_W x (pc + 3) lv ((.inr (.inl lost)) :: st) (xw w h sam blk lost ogr came sums sqs mrk que qd)) : q_W x pc lv (.inr (.inr (some 0)) :: st) (xw w h sam blk lost ogr came sums sqs mrk que qd) :=
  q_callV [] ct_X0_rest lkL_X0_rest dc_X0_rest rfl ok rfl hR hst (Nat.le_of_ble_eq_true rfl) hd ⟨w, h, sam, blk, lost, ogr, came, sums, sqs, mrk, que, qd, rfl, rfl, kk⟩
def sp_X0_countBlack : List q_V → List q_E → (Option q_V → List q_E → Prop) → Prop := fun as Wd K => ∃ (w : Nat) (h : Nat) (sam : Nat → Nat) (blk : Nat → Bool) (lost : Int64) (ogr : Nat → Nat) (came : Nat → Int32) (sums : Nat → Int64) (sqs : Nat → Int64) (mrk : Nat → Bool) (que : Nat → Nat) (qd : Nat), (q_g w h) ∧ as = [.inr (.inr (some 0))] ∧ Wd = (xw w h sam blk lost ogr came sums sqs mrk que qd) ∧ (K (some (.inl (nI (cntB blk (w * h))))) (xw w h sam blk lost ogr came sums sqs mrk que qd))
set_option maxHeartbeats 4000000 in
set_option maxRecDepth 20000 in
theorem ct_X0_countBlack : q_Ct yX0_countBlack cX0_countBlack 3 (some .int) 0 0 sp_X0_countBlack := by
  refine q_met (by decide) ?_
  intro x as Wd K hs ok fn
  obtain ⟨w, h, sam, blk, lost, ogr, came, sums, sqs, mrk, que, qd, g, rfl, rfl, hk⟩ := hs
  show q_W x 0 [some (.inr (.inr (some 0))), none, none] [] (xw w h sam blk lost ogr came sums sqs mrk que qd)
  have hn := q_gn g
  have L : ∀ (d i : Nat), d = w * h - i → i ≤ w * h → q_W x 4 [some (.inr (.inr (some 0))), some (.inl (nI (cntB blk i))), some (.inl (nI i))] [] (xw w h sam blk lost ogr came sums sqs mrk que qd) := by
    intro d
    induction d using Nat.strongRecOn with
    | _ d ih =>
      intro i hd hi
      refine q_iload_n ok rfl dX0_countBlack_4 ?_
      refine q_aload_n ok rfl dX0_countBlack_5 ?_
      refine xg_count ok dX0_countBlack_6 ?_
      refine q_icmpN_ge 30 (by omega) (by omega) ok dX0_countBlack_9 (by decide) (fun h9 => ?_) (fun h9 => ?_)
      · refine q_iload_n ok rfl dX0_countBlack_30 ?_
        exact q_iret ok fn dX0_countBlack_31 (by rw [show i = w * h by omega] ; exact hk)
      · refine q_aload_n ok rfl dX0_countBlack_12 ?_
        refine xg_black ok dX0_countBlack_13 ?_
        refine q_iload_n ok rfl dX0_countBlack_16 ?_
        refine xl_blk g (by omega) ok dX0_countBlack_17 ?_
        refine q_ifb_eq 24 ok dX0_countBlack_18 (by decide) (fun h18 => ?_) (fun h18 => ?_)
        · refine q_iincN_2 1 ok rfl (by decide) dX0_countBlack_24 ?_
          refine q_goto 4 ok dX0_countBlack_27 (by decide) ?_
          first | (rw [← cntB_t h18]; exact ih _ (by omega) (i + 1) rfl (by omega)) | (rw [← cntB_f h18]; exact ih _ (by omega) (i + 1) rfl (by omega))
        · refine q_iincN_1 1 ok rfl (by decide) dX0_countBlack_21 ?_
          refine q_iincN_2 1 ok rfl (by decide) dX0_countBlack_24 ?_
          refine q_goto 4 ok dX0_countBlack_27 (by decide) ?_
          first | (rw [← cntB_t h18]; exact ih _ (by omega) (i + 1) rfl (by omega)) | (rw [← cntB_f h18]; exact ih _ (by omega) (i + 1) rfl (by omega))
  refine q_iconstv (nI 0) ok (by decide) dX0_countBlack_0 ?_
  refine q_istore_1 ok rfl dX0_countBlack_1 ?_
  refine q_iconstv (nI 0) ok (by decide) dX0_countBlack_2 ?_
  refine q_istore_2 ok rfl dX0_countBlack_3 ?_
  exact L _ 0 rfl (Nat.zero_le _)
theorem kX0_countBlack {x : q_X} {cc : ByteArray} {fr lo pc : Nat} {lv : List (Option q_V)} {st : List q_V} {w : Nat} {h : Nat} {sam : Nat → Nat} {blk : Nat → Bool} {lost : Int64} {ogr : Nat → Nat} {came : Nat → Int32} {sums : Nat → Int64} {sqs : Nat → Int64} {mrk : Nat → Bool} {que : Nat → Nat} {qd : Nat} (g : q_g w h) (hR : 0 + 1 ≤ fr ∧ 8 + (3 + 11) + 0 ≤ lo) (hst : (st.map (fun v => if q_nol (some v) then 1 else 2)).sum ≤ 8) (ok : q_ok x cc RX0 fr lo) (hd : decode cc pc = .ok (.invokevirtual 90, 3)) (kk : q_W x (pc + 3) lv ((.inl (nI (cntB blk (w * h)))) :: st) (xw w h sam blk lost ogr came sums sqs mrk que qd)) : q_W x pc lv (.inr (.inr (some 0)) :: st) (xw w h sam blk lost ogr came sums sqs mrk que qd) :=
  q_callV [] ct_X0_countBlack lkX0_X0_countBlack dc_X0_countBlack rfl ok rfl hR hst (Nat.le_of_ble_eq_true rfl) hd ⟨w, h, sam, blk, lost, ogr, came, sums, sqs, mrk, que, qd, g, rfl, rfl, kk⟩
def sp_X1_blacks : List q_V → List q_E → (Option q_V → List q_E → Prop) → Prop := fun as Wd K => ∃ (w : Nat) (h : Nat) (thr : Nat) (sam : Nat → Nat) (blk : Nat → Bool) (nxt : Nat → Bool) (came : Nat → Int32) (part : Nat → Int32) (rst : Int64), (q_g w h) ∧ as = [.inr (.inr (some 0))] ∧ Wd = (mw w h thr sam blk nxt came part rst) ∧ (K (some (.inl (nI (cntB blk (w * h))))) (mw w h thr sam blk nxt came part rst))
set_option maxHeartbeats 4000000 in
set_option maxRecDepth 20000 in
theorem ct_X1_blacks : q_Ct yX1_blacks cX1_blacks 3 (some .int) 1 20 sp_X1_blacks := by
  refine q_met (by decide) ?_
  intro x as Wd K hs ok fn
  obtain ⟨w, h, thr, sam, blk, nxt, came, part, rst, g, rfl, rfl, hk⟩ := hs
  show q_W x 0 [some (.inr (.inr (some 0))), none, none] [] (mw w h thr sam blk nxt came part rst)
  have hn := q_gn g
  have L : ∀ (d i : Nat), d = w * h - i → i ≤ w * h → q_W x 4 [some (.inr (.inr (some 0))), some (.inl (nI (cntB blk i))), some (.inl (nI i))] [] (mw w h thr sam blk nxt came part rst) := by
    intro d
    induction d using Nat.strongRecOn with
    | _ d ih =>
      intro i hd hi
      refine q_iload_n ok rfl dX1_blacks_4 ?_
      refine q_aload_n ok rfl dX1_blacks_5 ?_
      refine kX1_all (by decide) (Nat.le_of_ble_eq_true rfl) ok dX1_blacks_6 ?_
      refine q_icmpN_ge 35 (by omega) (by omega) ok dX1_blacks_9 (by decide) (fun h9 => ?_) (fun h9 => ?_)
      · refine q_iload_n ok rfl dX1_blacks_35 ?_
        exact q_iret ok fn dX1_blacks_36 (by rw [show i = w * h by omega] ; exact hk)
      · refine q_aload_n ok rfl dX1_blacks_12 ?_
        refine mg_black ok dX1_blacks_13 ?_
        refine q_iload_n ok rfl dX1_blacks_16 ?_
        refine ml_blk g (by omega) ok dX1_blacks_17 ?_
        refine q_ifb_eq 27 ok dX1_blacks_18 (by decide) (fun h18 => ?_) (fun h18 => ?_)
        · refine q_iload_n ok rfl dX1_blacks_27 ?_
          refine q_istore_1 ok rfl dX1_blacks_28 ?_
          refine q_iincN_2 1 ok rfl (by decide) dX1_blacks_29 ?_
          refine q_goto 4 ok dX1_blacks_32 (by decide) ?_
          first | (rw [← cntB_t h18]; exact ih _ (by omega) (i + 1) rfl (by omega)) | (rw [← cntB_f h18]; exact ih _ (by omega) (i + 1) rfl (by omega))
        · refine q_iload_n ok rfl dX1_blacks_21 ?_
          refine q_iconstv (nI 1) ok (by decide) dX1_blacks_22 ?_
          refine q_iaddN ok dX1_blacks_23 ?_
          refine q_goto 28 ok dX1_blacks_24 (by decide) ?_
          refine q_istore_1 ok rfl dX1_blacks_28 ?_
          refine q_iincN_2 1 ok rfl (by decide) dX1_blacks_29 ?_
          refine q_goto 4 ok dX1_blacks_32 (by decide) ?_
          first | (rw [← cntB_t h18]; exact ih _ (by omega) (i + 1) rfl (by omega)) | (rw [← cntB_f h18]; exact ih _ (by omega) (i + 1) rfl (by omega))
  refine q_iconstv (nI 0) ok (by decide) dX1_blacks_0 ?_
  refine q_istore_1 ok rfl dX1_blacks_1 ?_
  refine q_iconstv (nI 0) ok (by decide) dX1_blacks_2 ?_
  refine q_istore_2 ok rfl dX1_blacks_3 ?_
  exact L _ 0 rfl (Nat.zero_le _)
theorem kX1_blacks {x : q_X} {cc : ByteArray} {fr lo pc : Nat} {lv : List (Option q_V)} {st : List q_V} {w : Nat} {h : Nat} {thr : Nat} {sam : Nat → Nat} {blk : Nat → Bool} {nxt : Nat → Bool} {came : Nat → Int32} {part : Nat → Int32} {rst : Int64} (g : q_g w h) (hR : 1 + 1 ≤ fr ∧ 8 + (3 + 11) + 20 ≤ lo) (hst : (st.map (fun v => if q_nol (some v) then 1 else 2)).sum ≤ 8) (ok : q_ok x cc RX1 fr lo) (hd : decode cc pc = .ok (.invokevirtual 52, 3)) (kk : q_W x (pc + 3) lv ((.inl (nI (cntB blk (w * h)))) :: st) (mw w h thr sam blk nxt came part rst)) : q_W x pc lv (.inr (.inr (some 0)) :: st) (mw w h thr sam blk nxt came part rst) :=
  q_callV [] ct_X1_blacks lkX1_X1_blacks dc_X1_blacks rfl ok rfl hR hst (Nat.le_of_ble_eq_true rfl) hd ⟨w, h, thr, sam, blk, nxt, came, part, rst, g, rfl, rfl, kk⟩
end
section
-- SECOND LEVEL of the class: fill, errors, edges, queue
def sp_fill (k : Nat) : List q_V → List q_E → (Option q_V → List q_E → Prop) → Prop := fun as Wd K => ∃ (n : Nat) (f : Nat → Int32) (v : Int32), n < 2 ^ 31 ∧ as = [.inr (.inr (some k)), .inl v] ∧ Wd[k]? = some (.inl (0, n, .inl f)) ∧ K none (Wd.set k (.inl (0, n, .inl (fun j => if j < n then v else f j))))
set_option maxHeartbeats 4000000 in
theorem ct_fill (k : Nat) : q_Ct yJ7_fill_53178 cJ7_fill_53178 4 none 0 0 (sp_fill k) := by
  refine q_metF (by decide +kernel) ?_
  intro x as Wd K hs ok fn
  obtain ⟨n, f, v, hn, rfl, he, hk⟩ := hs
  have hlt : k < Wd.length := (List.getElem?_eq_some_iff.mp he).1
  show q_W x 0 [some (.inr (.inr (some k))), some (.inl v), none, none] [] Wd
  have L : ∀ (d i : Nat), d = n - i → i ≤ n → q_W x 5 [some (.inr (.inr (some k))), some (.inl v), some (.inl (nI i)), some (.inl (nI n))] [] (Wd.set k (.inl (0, n, .inl (fun j => if j < i then v else f j)))) := by
    intro d
    induction d using Nat.strongRecOn with
    | _ d ih =>
      intro i hd hi
      have he2 : (Wd.set k (.inl (0, n, .inl (fun j => if j < i then v else f j))))[k]? = some (.inl (0, n, .inl (fun j => if j < i then v else f j))) := by rw [List.getElem?_set]; simp [hlt]
      refine q_iload_n ok rfl dJ7_fill_53178_5 ?_
      refine q_iload_n ok rfl dJ7_fill_53178_6 ?_
      refine q_icmpN_ge 20 (by omega) (by omega) ok dJ7_fill_53178_7 (by decide) (fun h7 => ?_) (fun h7 => ?_)
      · have : i = n := by omega
        subst this
        exact q_vret ok fn dJ7_fill_53178_20 hk
      · refine q_aload_n ok rfl dJ7_fill_53178_10 ?_
        refine q_iload_n ok rfl dJ7_fill_53178_11 ?_
        refine q_iload_n ok rfl dJ7_fill_53178_12 ?_
        refine q_iast ok he2 (vp_in_nI (by omega) hn) dJ7_fill_53178_13 ?_
        refine q_iincN_2 1 ok rfl (by decide) dJ7_fill_53178_14 ?_
        refine q_goto 5 ok dJ7_fill_53178_17 (by decide) ?_
        have e : (Wd.set k (.inl (0, n, .inl (fun j => if j < i then v else f j)))).set k (.inl (0, n, .inl (upd (fun j => if j < i then v else f j) (nI i).toNatClampNeg v))) = Wd.set k (.inl (0, n, .inl (fun j => if j < i + 1 then v else f j))) := by
          rw [List.set_set, nI_clamp (by omega)]
          have e1 : upd (fun j => if j < i then v else f j) i v = fun j => if j < i + 1 then v else f j := by
            funext j
            by_cases h : j = i
            · subst h; simp [upd]
            · simp only [upd, if_neg h]
              by_cases h2 : j < i
              · rw [if_pos h2, if_pos (by omega)]
              · rw [if_neg h2, if_neg (by omega)]
          rw [e1]
        rw [e]
        exact ih _ (by omega) (i + 1) rfl (by omega)
  refine q_iconstv (nI 0) ok (by decide) dJ7_fill_53178_0 ?_
  refine q_istore_2 ok rfl dJ7_fill_53178_1 ?_
  refine q_aload_n ok rfl dJ7_fill_53178_2 ?_
  refine q_alen ok he (by decide) dJ7_fill_53178_3 ?_
  refine q_istore_3 ok rfl dJ7_fill_53178_4 ?_
  have e0 : Wd.set k (.inl (0, n, .inl (fun j => if j < 0 then v else f j))) = Wd := by
    obtain ⟨h1, h2⟩ := List.getElem?_eq_some_iff.mp he
    have : (fun j => if j < 0 then v else f j) = f := by funext j; simp
    rw [this, ← h2, List.set_getElem_self]
  have := L _ 0 rfl (Nat.zero_le _)
  rw [e0] at this
  exact this

theorem pu_step {α : Type} {F : Nat → α} {f : Nat → α} {t : Nat} : va_up (fun k => if k < t then F k else f k) t (F t) = fun k => if k < t + 1 then F k else f k := by
  funext k
  by_cases h : k = t
  · subst h; simp [va_up]
  · simp only [va_up, if_neg h]
    by_cases h2 : k < t
    · rw [if_pos h2, if_pos (by omega)]
    · rw [if_neg h2, if_neg (by omega)]
theorem pu_0 {α : Type} {F f : Nat → α} : (fun k => if k < 0 then F k else f k) = f := by funext k; simp
theorem kfill_came {x : q_X} {cc : ByteArray} {fr lo pc : Nat} {lv : List (Option q_V)} {st : List q_V} {w : Nat} {h : Nat} {sam : Nat → Nat} {blk : Nat → Bool} {lost : Int64} {ogr : Nat → Nat} {came : Nat → Int32} {sums : Nat → Int64} {sqs : Nat → Int64} {mrk : Nat → Bool} {que : Nat → Nat} {qd : Nat} (g : q_g w h) (hR : 1 ≤ fr ∧ 23 ≤ lo) (hst : (st.map (fun v => if q_nol (some v) then 1 else 2)).sum ≤ 8) (ok : q_ok x cc RX0 fr lo) (hd : decode cc pc = .ok (.invokestatic 95, 3)) (kk : q_W x (pc + 3) lv st (xw w h sam blk lost ogr (fun j => if j < w * h then nI 0 else came j) sums sqs mrk que qd)) : q_W x pc lv (.inl (nI 0) :: .inr (.inr (some 4)) :: st) (xw w h sam blk lost ogr came sums sqs mrk que qd) := by
  have hn := q_gn g
  refine q_callS [.inr (.inr (some 4)), .inl (nI 0)] (ct_fill 4) lkX0_J7_fill_53178 dc_J7_fill_53178 ok hR hst (Nat.le_of_ble_eq_true rfl) hd ?_
  refine ⟨w * h, came, nI 0, by omega, rfl, rfl, ?_⟩
  skip
  exact kk
theorem kfill_ogr {x : q_X} {cc : ByteArray} {fr lo pc : Nat} {lv : List (Option q_V)} {st : List q_V} {w : Nat} {h : Nat} {sam : Nat → Nat} {blk : Nat → Bool} {lost : Int64} {ogr : Nat → Nat} {came : Nat → Int32} {sums : Nat → Int64} {sqs : Nat → Int64} {mrk : Nat → Bool} {que : Nat → Nat} {qd : Nat} (g : q_g w h) (hR : 1 ≤ fr ∧ 23 ≤ lo) (hst : (st.map (fun v => if q_nol (some v) then 1 else 2)).sum ≤ 8) (ok : q_ok x cc RX0 fr lo) (hd : decode cc pc = .ok (.invokestatic 95, 3)) (kk : q_W x (pc + 3) lv st (xw w h sam blk lost (fun j => if j < 256 then 0 else ogr j) came sums sqs mrk que qd)) : q_W x pc lv (.inl (nI 0) :: .inr (.inr (some 3)) :: st) (xw w h sam blk lost ogr came sums sqs mrk que qd) := by
  have hn := q_gn g
  refine q_callS [.inr (.inr (some 3)), .inl (nI 0)] (ct_fill 3) lkX0_J7_fill_53178 dc_J7_fill_53178 ok hR hst (Nat.le_of_ble_eq_true rfl) hd ?_
  refine ⟨256, (fun j => nI (ogr j)), nI 0, by omega, rfl, rfl, ?_⟩
  have e : (fun j => if j < 256 then nI 0 else (fun j => nI (ogr j)) j) = fun j => nI ((fun j => if j < 256 then 0 else ogr j) j) := by funext j; by_cases hj : j < 256 <;> simp [hj]
  rw [e]
  exact kk
def pT (w h : Nat) (a b e : Int32) (came : Nat → Int32) : Nat → Int32 := if inI w h a b = true then va_up came (pI w a b) (came (pI w a b) + e) else came
def lT (w h : Nat) (a b e : Int32) (lost : Int64) : Int64 := if inI w h a b = true then lost else lost + e.toInt64
abbrev q_T : Type := (Nat → Bool) × (Int64 × (Nat → Int32))
def sE (v : Int32) : Int32 := if v < nI 128 then v else v - nI 255
def sB (e : Int32) (kind : Int32) : Int32 := if kind = nI 2 then e / nI 4 else e - e / nI 2
def sS (w h : Nat) (sam : Nat → Nat) (step kind : Int32) (x y : Nat) (t : q_T) : q_T :=
  (va_up t.1 (y * w + x) (if nI (sam (y * w + x)) + t.2.2 (y * w + x) < nI 128 then true else false),
   lT w h (nI x - step) (nI (y + 1)) (sE (nI (sam (y * w + x)) + t.2.2 (y * w + x)) - sE (nI (sam (y * w + x)) + t.2.2 (y * w + x)) / nI 2 - sB (sE (nI (sam (y * w + x)) + t.2.2 (y * w + x))) kind) (lT w h (nI x) (nI (y + 1)) (sB (sE (nI (sam (y * w + x)) + t.2.2 (y * w + x))) kind) (lT w h (nI x + step) (nI y) (sE (nI (sam (y * w + x)) + t.2.2 (y * w + x)) / nI 2) t.2.1)),
   pT w h (nI x - step) (nI (y + 1)) (sE (nI (sam (y * w + x)) + t.2.2 (y * w + x)) - sE (nI (sam (y * w + x)) + t.2.2 (y * w + x)) / nI 2 - sB (sE (nI (sam (y * w + x)) + t.2.2 (y * w + x))) kind) (pT w h (nI x) (nI (y + 1)) (sB (sE (nI (sam (y * w + x)) + t.2.2 (y * w + x))) kind) (pT w h (nI x + step) (nI y) (sE (nI (sam (y * w + x)) + t.2.2 (y * w + x)) / nI 2) t.2.2)))
theorem sS_c {w h : Nat} {sam : Nat → Nat} {stp knd : Int32} {i j : Nat} {blk : Nat → Bool} {lost : Int64} {came : Nat → Int32} {v e be : Int32} {bl : Bool} (hv : nI (sam (j * w + i)) + came (j * w + i) = v) (he : sE v = e) (hb : sB e knd = be) (hl : (if v < nI 128 then true else false) = bl) :
    sS w h sam stp knd i j (blk, lost, came) = (va_up blk (j * w + i) bl, lT w h (nI i - stp) (nI (j + 1)) (e - e / nI 2 - be) (lT w h (nI i) (nI (j + 1)) be (lT w h (nI i + stp) (nI j) (e / nI 2) lost)), pT w h (nI i - stp) (nI (j + 1)) (e - e / nI 2 - be) (pT w h (nI i) (nI (j + 1)) be (pT w h (nI i + stp) (nI j) (e / nI 2) came))) := by
  subst hv; subst he; subst hb; subst hl; rfl
def sBk (kind : Int32) (y : Nat) : Bool := decide (kind = nI 1 ∧ y % 2 = 1)
def sSt (b : Bool) : Int32 := if b = true then -1 else nI 1
def sX (w : Nat) (b : Bool) (i : Nat) : Nat := if b = true then w - 1 - i else i
def sXi (w : Nat) (b : Bool) (i : Nat) : Int32 := if b = true then nI w - nI 1 - nI i else nI i
def sRow (w h : Nat) (sam : Nat → Nat) (kind : Int32) (y : Nat) : Nat → q_T → q_T
  | 0, t => t
  | i + 1, t => sS w h sam (sSt (sBk kind y)) kind (sX w (sBk kind y) i) y (sRow w h sam kind y i t)
def sAll (w h : Nat) (sam : Nat → Nat) (kind : Int32) : Nat → q_T → q_T
  | 0, t => t
  | y + 1, t => sRow w h sam kind y w (sAll w h sam kind y t)
theorem sXi_n {w i : Nat} (b : Bool) (hi : i < w) : sXi w b i = nI (sX w b i) := by
  cases b
  · rfl
  · simp only [sXi, sX, if_true]
    rw [pk_sub (by omega), pk_sub (by omega)]
theorem sXi_s {w i : Nat} (b : Bool) : sXi w b i + sSt b = sXi w b (i + 1) := by
  cases b
  · simp only [sXi, sSt]; exact nI_add i 1
  · simp only [sXi, sSt, if_true]
    rw [← nI_add i 1, show (-1 : Int32) = -(nI 1) from by decide]
    generalize nI w - nI 1 = a
    generalize nI i = c
    generalize nI 1 = d
    rw [Int32.sub_eq_add_neg a c, Int32.sub_eq_add_neg a (c + d), Int32.neg_add, Int32.add_assoc, Int32.sub_eq_add_neg (-c) d]
theorem sX_lt {w i : Nat} (b : Bool) (hi : i < w) : sX w b i < w := by
  cases b
  · exact hi
  · simp only [sX, if_true]; omega
def sp_X0_passTo : List q_V → List q_E → (Option q_V → List q_E → Prop) → Prop := fun as Wd K => ∃ (w : Nat) (h : Nat) (sam : Nat → Nat) (blk : Nat → Bool) (lost : Int64) (ogr : Nat → Nat) (came : Nat → Int32) (sums : Nat → Int64) (sqs : Nat → Int64) (mrk : Nat → Bool) (que : Nat → Nat) (qd : Nat) (a : Int32) (b : Int32) (e : Int32), (q_g w h) ∧ as = [.inr (.inr (some 0)), .inl a, .inl b, .inl e] ∧ Wd = (xw w h sam blk lost ogr came sums sqs mrk que qd) ∧ (K none (xw w h sam blk (lT w h a b e lost) ogr (pT w h a b e came) sums sqs mrk que qd))
set_option maxHeartbeats 4000000 in
set_option maxRecDepth 20000 in
theorem ct_X0_passTo : q_Ct yX0_passTo cX0_passTo 4 none 1 22 sp_X0_passTo := by
  refine q_met (by decide) ?_
  intro x as Wd K hs ok fn
  obtain ⟨w, h, sam, blk, lost, ogr, came, sums, sqs, mrk, que, qd, a, b, e, g, rfl, rfl, hk⟩ := hs
  show q_W x 0 [some (.inr (.inr (some 0))), some (.inl a), some (.inl b), some (.inl e)] [] (xw w h sam blk lost ogr came sums sqs mrk que qd)
  refine q_aload_n ok rfl dX0_passTo_0 ?_
  refine q_iload_n ok rfl dX0_passTo_1 ?_
  refine q_iload_n ok rfl dX0_passTo_2 ?_
  refine kX0_isInside (by decide) (Nat.le_of_ble_eq_true rfl) ok dX0_passTo_3 ?_
  refine q_ifb_eq 27 ok dX0_passTo_6 (by decide) (fun h6 => ?_) (fun h6 => ?_)
  · refine q_aload_n ok rfl dX0_passTo_27 ?_
    refine q_dupa ok dX0_passTo_28 ?_
    refine xg_lost ok dX0_passTo_29 ?_
    refine q_iload_n ok rfl dX0_passTo_32 ?_
    refine q_i2l ok dX0_passTo_33 ?_
    refine q_ladd ok dX0_passTo_34 ?_
    refine xp_lost ok dX0_passTo_35 ?_
    exact q_vret ok fn dX0_passTo_38 (by first | (unfold lT pT at hk; rw [if_pos h6, if_pos h6, pI_n (by omega) (by omega)] at hk; exact hk) | (unfold lT pT at hk; rw [if_neg (by rw [h6]; decide), if_neg (by rw [h6]; decide)] at hk; exact hk))
  · obtain ⟨i, j, hi, hj, rfl, rfl⟩ := inI_o g h6
    have hlt := pl_lt hi hj
    have hw := g.2.1
    have hh := g.2.2.2
    refine q_aload_n ok rfl dX0_passTo_9 ?_
    refine xg_came ok dX0_passTo_10 ?_
    refine q_aload_n ok rfl dX0_passTo_13 ?_
    refine q_iload_n ok rfl dX0_passTo_14 ?_
    refine q_iload_n ok rfl dX0_passTo_15 ?_
    refine kX0_placeOf (by decide) (Nat.le_of_ble_eq_true rfl) ok dX0_passTo_16 ?_
    refine q_dup2ia ok dX0_passTo_19 ?_
    refine xl_came g (by omega) ok dX0_passTo_20 ?_
    refine q_iload_n ok rfl dX0_passTo_21 ?_
    refine q_iadd ok dX0_passTo_22 ?_
    refine xs_came g (by omega) ok dX0_passTo_23 ?_
    refine q_goto 38 ok dX0_passTo_24 (by decide) ?_
    exact q_vret ok fn dX0_passTo_38 (by first | (unfold lT pT at hk; rw [if_pos h6, if_pos h6, pI_n (by omega) (by omega)] at hk; exact hk) | (unfold lT pT at hk; rw [if_neg (by rw [h6]; decide), if_neg (by rw [h6]; decide)] at hk; exact hk))
theorem kX0_passTo {x : q_X} {cc : ByteArray} {fr lo pc : Nat} {lv : List (Option q_V)} {st : List q_V} {w : Nat} {h : Nat} {sam : Nat → Nat} {blk : Nat → Bool} {lost : Int64} {ogr : Nat → Nat} {came : Nat → Int32} {sums : Nat → Int64} {sqs : Nat → Int64} {mrk : Nat → Bool} {que : Nat → Nat} {qd : Nat} {a : Int32} {b : Int32} {e : Int32} (g : q_g w h) (hR : 1 + 1 ≤ fr ∧ 8 + (4 + 11) + 22 ≤ lo) (hst : (st.map (fun v => if q_nol (some v) then 1 else 2)).sum ≤ 8) (ok : q_ok x cc RX0 fr lo) (hd : decode cc pc = .ok (.invokevirtual 187, 3)) (kk : q_W x (pc + 3) lv (st) (xw w h sam blk (lT w h a b e lost) ogr (pT w h a b e came) sums sqs mrk que qd)) : q_W x pc lv (.inl e :: .inl b :: .inl a :: .inr (.inr (some 0)) :: st) (xw w h sam blk lost ogr came sums sqs mrk que qd) :=
  q_callV [.inl a, .inl b, .inl e] ct_X0_passTo lkX0_X0_passTo dc_X0_passTo rfl ok rfl hR hst (Nat.le_of_ble_eq_true rfl) hd ⟨w, h, sam, blk, lost, ogr, came, sums, sqs, mrk, que, qd, a, b, e, g, rfl, rfl, kk⟩
def sp_X0_spreadSample : List q_V → List q_E → (Option q_V → List q_E → Prop) → Prop := fun as Wd K => ∃ (w : Nat) (h : Nat) (sam : Nat → Nat) (blk : Nat → Bool) (lost : Int64) (ogr : Nat → Nat) (came : Nat → Int32) (sums : Nat → Int64) (sqs : Nat → Int64) (mrk : Nat → Bool) (que : Nat → Nat) (qd : Nat) (i : Nat) (j : Nat) (stp : Int32) (knd : Int32), (q_g w h) ∧ (i < w) ∧ (j < h) ∧ as = [.inr (.inr (some 0)), .inl (nI i), .inl (nI j), .inl stp, .inl knd] ∧ Wd = (xw w h sam blk lost ogr came sums sqs mrk que qd) ∧ (K none (xw w h sam ((sS w h sam stp knd i j (blk, lost, came)).1) ((sS w h sam stp knd i j (blk, lost, came)).2.1) ogr ((sS w h sam stp knd i j (blk, lost, came)).2.2) sums sqs mrk que qd))
set_option maxHeartbeats 4000000 in
set_option maxRecDepth 20000 in
theorem ct_X0_spreadSample : q_Ct yX0_spreadSample cX0_spreadSample 11 none 2 45 sp_X0_spreadSample := by
  refine q_met (by decide) ?_
  intro x as Wd K hs ok fn
  obtain ⟨w, h, sam, blk, lost, ogr, came, sums, sqs, mrk, que, qd, i, j, stp, knd, g, hi, hj, rfl, rfl, hk⟩ := hs
  show q_W x 0 [some (.inr (.inr (some 0))), some (.inl (nI i)), some (.inl (nI j)), some (.inl stp), some (.inl knd), none, none, none, none, none, none] [] (xw w h sam blk lost ogr came sums sqs mrk que qd)
  have hlt := pl_lt hi hj
  refine q_aload_n ok rfl dX0_spreadSample_0 ?_
  refine q_iload_n ok rfl dX0_spreadSample_1 ?_
  refine q_iload_n ok rfl dX0_spreadSample_2 ?_
  refine kX0_placeOf (by decide) (Nat.le_of_ble_eq_true rfl) ok dX0_spreadSample_3 ?_
  refine q_istore_5 ok rfl dX0_spreadSample_6 ?_
  refine q_aload_n ok rfl dX0_spreadSample_8 ?_
  refine xg_samples ok dX0_spreadSample_9 ?_
  refine q_iload ok rfl dX0_spreadSample_12 ?_
  refine xl_sam g (by omega) ok dX0_spreadSample_14 ?_
  refine q_aload_n ok rfl dX0_spreadSample_15 ?_
  refine xg_came ok dX0_spreadSample_16 ?_
  refine q_iload ok rfl dX0_spreadSample_19 ?_
  refine xl_came g (by omega) ok dX0_spreadSample_21 ?_
  refine q_iadd ok dX0_spreadSample_22 ?_
  refine q_istore_6 ok rfl dX0_spreadSample_23 ?_
  refine q_aload_n ok rfl dX0_spreadSample_25 ?_
  refine xg_black ok dX0_spreadSample_26 ?_
  refine q_iload ok rfl dX0_spreadSample_29 ?_
  refine q_iload ok rfl dX0_spreadSample_31 ?_
  refine q_sipushv (nI 128) ok (by decide) dX0_spreadSample_33 ?_
  refine q_icmp_ge 43 ok dX0_spreadSample_36 (by decide) (fun h36 => ?_) (fun h36 => ?_)
  · refine q_iconstv (nI 0) ok (by decide) dX0_spreadSample_43 ?_
    refine xs_blk (v := false) g (by omega) ok dX0_spreadSample_44 ?_
    refine q_aload_n ok rfl dX0_spreadSample_45 ?_
    refine xg_black ok dX0_spreadSample_46 ?_
    refine q_iload ok rfl dX0_spreadSample_49 ?_
    refine xl_blk g (by omega) ok dX0_spreadSample_51 ?_
    refine q_ifb_eq 60 ok dX0_spreadSample_52 (by decide) (fun h52 => ?_) (fun h52 => ?_)
    · refine q_iload ok rfl dX0_spreadSample_60 ?_
      refine q_sipushv (nI 255) ok (by decide) dX0_spreadSample_62 ?_
      refine q_isub ok dX0_spreadSample_65 ?_
      refine q_istore_7 ok rfl dX0_spreadSample_66 ?_
      refine q_iload ok rfl dX0_spreadSample_68 ?_
      refine q_iconstv (nI 2) ok (by decide) dX0_spreadSample_70 ?_
      refine q_idiv ok (by decide) dX0_spreadSample_71 ?_
      refine q_istore_8 ok rfl dX0_spreadSample_72 ?_
      refine q_iload ok rfl dX0_spreadSample_74 ?_
      refine q_iconstv (nI 2) ok (by decide) dX0_spreadSample_76 ?_
      refine q_icmp_ne 87 ok dX0_spreadSample_77 (by decide) (fun h77 => ?_) (fun h77 => ?_)
      · refine q_iload ok rfl dX0_spreadSample_87 ?_
        refine q_iload ok rfl dX0_spreadSample_89 ?_
        refine q_isub ok dX0_spreadSample_91 ?_
        refine q_istore_9 ok rfl dX0_spreadSample_92 ?_
        refine q_iload ok rfl dX0_spreadSample_94 ?_
        refine q_iload ok rfl dX0_spreadSample_96 ?_
        refine q_isub ok dX0_spreadSample_98 ?_
        refine q_iload ok rfl dX0_spreadSample_99 ?_
        refine q_isub ok dX0_spreadSample_101 ?_
        refine q_istore_10 ok rfl dX0_spreadSample_102 ?_
        refine q_aload_n ok rfl dX0_spreadSample_104 ?_
        refine q_iload_n ok rfl dX0_spreadSample_105 ?_
        refine q_iload_n ok rfl dX0_spreadSample_106 ?_
        refine q_iadd ok dX0_spreadSample_107 ?_
        refine q_iload_n ok rfl dX0_spreadSample_108 ?_
        refine q_iload ok rfl dX0_spreadSample_109 ?_
        refine kX0_passTo g (by decide) (Nat.le_of_ble_eq_true rfl) ok dX0_spreadSample_111 ?_
        refine q_aload_n ok rfl dX0_spreadSample_114 ?_
        refine q_iload_n ok rfl dX0_spreadSample_115 ?_
        refine q_iload_n ok rfl dX0_spreadSample_116 ?_
        refine q_iconstv (nI 1) ok (by decide) dX0_spreadSample_117 ?_
        refine q_iaddN ok dX0_spreadSample_118 ?_
        refine q_iload ok rfl dX0_spreadSample_119 ?_
        refine kX0_passTo g (by decide) (Nat.le_of_ble_eq_true rfl) ok dX0_spreadSample_121 ?_
        refine q_aload_n ok rfl dX0_spreadSample_124 ?_
        refine q_iload_n ok rfl dX0_spreadSample_125 ?_
        refine q_iload_n ok rfl dX0_spreadSample_126 ?_
        refine q_isub ok dX0_spreadSample_127 ?_
        refine q_iload_n ok rfl dX0_spreadSample_128 ?_
        refine q_iconstv (nI 1) ok (by decide) dX0_spreadSample_129 ?_
        refine q_iaddN ok dX0_spreadSample_130 ?_
        refine q_iload ok rfl dX0_spreadSample_131 ?_
        refine kX0_passTo g (by decide) (Nat.le_of_ble_eq_true rfl) ok dX0_spreadSample_133 ?_
        rw [sS_c rfl (if_neg (Int32.not_lt.mpr h36)) (if_neg h77) (if_neg (Int32.not_lt.mpr h36))] at hk
        exact q_vret ok fn dX0_spreadSample_136 hk
      · refine q_iload ok rfl dX0_spreadSample_80 ?_
        refine q_iconstv (nI 4) ok (by decide) dX0_spreadSample_82 ?_
        refine q_idiv ok (by decide) dX0_spreadSample_83 ?_
        refine q_goto 92 ok dX0_spreadSample_84 (by decide) ?_
        refine q_istore_9 ok rfl dX0_spreadSample_92 ?_
        refine q_iload ok rfl dX0_spreadSample_94 ?_
        refine q_iload ok rfl dX0_spreadSample_96 ?_
        refine q_isub ok dX0_spreadSample_98 ?_
        refine q_iload ok rfl dX0_spreadSample_99 ?_
        refine q_isub ok dX0_spreadSample_101 ?_
        refine q_istore_10 ok rfl dX0_spreadSample_102 ?_
        refine q_aload_n ok rfl dX0_spreadSample_104 ?_
        refine q_iload_n ok rfl dX0_spreadSample_105 ?_
        refine q_iload_n ok rfl dX0_spreadSample_106 ?_
        refine q_iadd ok dX0_spreadSample_107 ?_
        refine q_iload_n ok rfl dX0_spreadSample_108 ?_
        refine q_iload ok rfl dX0_spreadSample_109 ?_
        refine kX0_passTo g (by decide) (Nat.le_of_ble_eq_true rfl) ok dX0_spreadSample_111 ?_
        refine q_aload_n ok rfl dX0_spreadSample_114 ?_
        refine q_iload_n ok rfl dX0_spreadSample_115 ?_
        refine q_iload_n ok rfl dX0_spreadSample_116 ?_
        refine q_iconstv (nI 1) ok (by decide) dX0_spreadSample_117 ?_
        refine q_iaddN ok dX0_spreadSample_118 ?_
        refine q_iload ok rfl dX0_spreadSample_119 ?_
        refine kX0_passTo g (by decide) (Nat.le_of_ble_eq_true rfl) ok dX0_spreadSample_121 ?_
        refine q_aload_n ok rfl dX0_spreadSample_124 ?_
        refine q_iload_n ok rfl dX0_spreadSample_125 ?_
        refine q_iload_n ok rfl dX0_spreadSample_126 ?_
        refine q_isub ok dX0_spreadSample_127 ?_
        refine q_iload_n ok rfl dX0_spreadSample_128 ?_
        refine q_iconstv (nI 1) ok (by decide) dX0_spreadSample_129 ?_
        refine q_iaddN ok dX0_spreadSample_130 ?_
        refine q_iload ok rfl dX0_spreadSample_131 ?_
        refine kX0_passTo g (by decide) (Nat.le_of_ble_eq_true rfl) ok dX0_spreadSample_133 ?_
        rw [sS_c rfl (if_neg (Int32.not_lt.mpr h36)) (if_pos h77) (if_neg (Int32.not_lt.mpr h36))] at hk
        exact q_vret ok fn dX0_spreadSample_136 hk
    · exact absurd h52 (by rw [va_up_self]; decide)
  · refine q_iconstv (nI 1) ok (by decide) dX0_spreadSample_39 ?_
    refine q_goto 44 ok dX0_spreadSample_40 (by decide) ?_
    refine xs_blk (v := true) g (by omega) ok dX0_spreadSample_44 ?_
    refine q_aload_n ok rfl dX0_spreadSample_45 ?_
    refine xg_black ok dX0_spreadSample_46 ?_
    refine q_iload ok rfl dX0_spreadSample_49 ?_
    refine xl_blk g (by omega) ok dX0_spreadSample_51 ?_
    refine q_ifb_eq 60 ok dX0_spreadSample_52 (by decide) (fun h52 => ?_) (fun h52 => ?_)
    · exact absurd h52 (by rw [va_up_self]; decide)
    · refine q_iload ok rfl dX0_spreadSample_55 ?_
      refine q_goto 66 ok dX0_spreadSample_57 (by decide) ?_
      refine q_istore_7 ok rfl dX0_spreadSample_66 ?_
      refine q_iload ok rfl dX0_spreadSample_68 ?_
      refine q_iconstv (nI 2) ok (by decide) dX0_spreadSample_70 ?_
      refine q_idiv ok (by decide) dX0_spreadSample_71 ?_
      refine q_istore_8 ok rfl dX0_spreadSample_72 ?_
      refine q_iload ok rfl dX0_spreadSample_74 ?_
      refine q_iconstv (nI 2) ok (by decide) dX0_spreadSample_76 ?_
      refine q_icmp_ne 87 ok dX0_spreadSample_77 (by decide) (fun h77 => ?_) (fun h77 => ?_)
      · refine q_iload ok rfl dX0_spreadSample_87 ?_
        refine q_iload ok rfl dX0_spreadSample_89 ?_
        refine q_isub ok dX0_spreadSample_91 ?_
        refine q_istore_9 ok rfl dX0_spreadSample_92 ?_
        refine q_iload ok rfl dX0_spreadSample_94 ?_
        refine q_iload ok rfl dX0_spreadSample_96 ?_
        refine q_isub ok dX0_spreadSample_98 ?_
        refine q_iload ok rfl dX0_spreadSample_99 ?_
        refine q_isub ok dX0_spreadSample_101 ?_
        refine q_istore_10 ok rfl dX0_spreadSample_102 ?_
        refine q_aload_n ok rfl dX0_spreadSample_104 ?_
        refine q_iload_n ok rfl dX0_spreadSample_105 ?_
        refine q_iload_n ok rfl dX0_spreadSample_106 ?_
        refine q_iadd ok dX0_spreadSample_107 ?_
        refine q_iload_n ok rfl dX0_spreadSample_108 ?_
        refine q_iload ok rfl dX0_spreadSample_109 ?_
        refine kX0_passTo g (by decide) (Nat.le_of_ble_eq_true rfl) ok dX0_spreadSample_111 ?_
        refine q_aload_n ok rfl dX0_spreadSample_114 ?_
        refine q_iload_n ok rfl dX0_spreadSample_115 ?_
        refine q_iload_n ok rfl dX0_spreadSample_116 ?_
        refine q_iconstv (nI 1) ok (by decide) dX0_spreadSample_117 ?_
        refine q_iaddN ok dX0_spreadSample_118 ?_
        refine q_iload ok rfl dX0_spreadSample_119 ?_
        refine kX0_passTo g (by decide) (Nat.le_of_ble_eq_true rfl) ok dX0_spreadSample_121 ?_
        refine q_aload_n ok rfl dX0_spreadSample_124 ?_
        refine q_iload_n ok rfl dX0_spreadSample_125 ?_
        refine q_iload_n ok rfl dX0_spreadSample_126 ?_
        refine q_isub ok dX0_spreadSample_127 ?_
        refine q_iload_n ok rfl dX0_spreadSample_128 ?_
        refine q_iconstv (nI 1) ok (by decide) dX0_spreadSample_129 ?_
        refine q_iaddN ok dX0_spreadSample_130 ?_
        refine q_iload ok rfl dX0_spreadSample_131 ?_
        refine kX0_passTo g (by decide) (Nat.le_of_ble_eq_true rfl) ok dX0_spreadSample_133 ?_
        rw [sS_c rfl (if_pos (Int32.not_le.mp h36)) (if_neg h77) (if_pos (Int32.not_le.mp h36))] at hk
        exact q_vret ok fn dX0_spreadSample_136 hk
      · refine q_iload ok rfl dX0_spreadSample_80 ?_
        refine q_iconstv (nI 4) ok (by decide) dX0_spreadSample_82 ?_
        refine q_idiv ok (by decide) dX0_spreadSample_83 ?_
        refine q_goto 92 ok dX0_spreadSample_84 (by decide) ?_
        refine q_istore_9 ok rfl dX0_spreadSample_92 ?_
        refine q_iload ok rfl dX0_spreadSample_94 ?_
        refine q_iload ok rfl dX0_spreadSample_96 ?_
        refine q_isub ok dX0_spreadSample_98 ?_
        refine q_iload ok rfl dX0_spreadSample_99 ?_
        refine q_isub ok dX0_spreadSample_101 ?_
        refine q_istore_10 ok rfl dX0_spreadSample_102 ?_
        refine q_aload_n ok rfl dX0_spreadSample_104 ?_
        refine q_iload_n ok rfl dX0_spreadSample_105 ?_
        refine q_iload_n ok rfl dX0_spreadSample_106 ?_
        refine q_iadd ok dX0_spreadSample_107 ?_
        refine q_iload_n ok rfl dX0_spreadSample_108 ?_
        refine q_iload ok rfl dX0_spreadSample_109 ?_
        refine kX0_passTo g (by decide) (Nat.le_of_ble_eq_true rfl) ok dX0_spreadSample_111 ?_
        refine q_aload_n ok rfl dX0_spreadSample_114 ?_
        refine q_iload_n ok rfl dX0_spreadSample_115 ?_
        refine q_iload_n ok rfl dX0_spreadSample_116 ?_
        refine q_iconstv (nI 1) ok (by decide) dX0_spreadSample_117 ?_
        refine q_iaddN ok dX0_spreadSample_118 ?_
        refine q_iload ok rfl dX0_spreadSample_119 ?_
        refine kX0_passTo g (by decide) (Nat.le_of_ble_eq_true rfl) ok dX0_spreadSample_121 ?_
        refine q_aload_n ok rfl dX0_spreadSample_124 ?_
        refine q_iload_n ok rfl dX0_spreadSample_125 ?_
        refine q_iload_n ok rfl dX0_spreadSample_126 ?_
        refine q_isub ok dX0_spreadSample_127 ?_
        refine q_iload_n ok rfl dX0_spreadSample_128 ?_
        refine q_iconstv (nI 1) ok (by decide) dX0_spreadSample_129 ?_
        refine q_iaddN ok dX0_spreadSample_130 ?_
        refine q_iload ok rfl dX0_spreadSample_131 ?_
        refine kX0_passTo g (by decide) (Nat.le_of_ble_eq_true rfl) ok dX0_spreadSample_133 ?_
        rw [sS_c rfl (if_pos (Int32.not_le.mp h36)) (if_pos h77) (if_pos (Int32.not_le.mp h36))] at hk
        exact q_vret ok fn dX0_spreadSample_136 hk
theorem kX0_spreadSample {x : q_X} {cc : ByteArray} {fr lo pc : Nat} {lv : List (Option q_V)} {st : List q_V} {w : Nat} {h : Nat} {sam : Nat → Nat} {blk : Nat → Bool} {lost : Int64} {ogr : Nat → Nat} {came : Nat → Int32} {sums : Nat → Int64} {sqs : Nat → Int64} {mrk : Nat → Bool} {que : Nat → Nat} {qd : Nat} {i : Nat} {j : Nat} {stp : Int32} {knd : Int32} (g : q_g w h) (hi : i < w) (hj : j < h) (hR : 2 + 1 ≤ fr ∧ 8 + (11 + 11) + 45 ≤ lo) (hst : (st.map (fun v => if q_nol (some v) then 1 else 2)).sum ≤ 8) (ok : q_ok x cc RX0 fr lo) (hd : decode cc pc = .ok (.invokevirtual 183, 3)) (kk : q_W x (pc + 3) lv (st) (xw w h sam ((sS w h sam stp knd i j (blk, lost, came)).1) ((sS w h sam stp knd i j (blk, lost, came)).2.1) ogr ((sS w h sam stp knd i j (blk, lost, came)).2.2) sums sqs mrk que qd)) : q_W x pc lv (.inl knd :: .inl stp :: .inl (nI j) :: .inl (nI i) :: .inr (.inr (some 0)) :: st) (xw w h sam blk lost ogr came sums sqs mrk que qd) :=
  q_callV [.inl (nI i), .inl (nI j), .inl stp, .inl knd] ct_X0_spreadSample lkX0_X0_spreadSample dc_X0_spreadSample rfl ok rfl hR hst (Nat.le_of_ble_eq_true rfl) hd ⟨w, h, sam, blk, lost, ogr, came, sums, sqs, mrk, que, qd, i, j, stp, knd, g, hi, hj, rfl, rfl, kk⟩
def sp_X0_spreadRow : List q_V → List q_E → (Option q_V → List q_E → Prop) → Prop := fun as Wd K => ∃ (w : Nat) (h : Nat) (sam : Nat → Nat) (blk : Nat → Bool) (lost : Int64) (ogr : Nat → Nat) (came : Nat → Int32) (sums : Nat → Int64) (sqs : Nat → Int64) (mrk : Nat → Bool) (que : Nat → Nat) (qd : Nat) (j : Nat) (knd : Int32), (q_g w h) ∧ (j < h) ∧ as = [.inr (.inr (some 0)), .inl (nI j), .inl knd] ∧ Wd = (xw w h sam blk lost ogr came sums sqs mrk que qd) ∧ (K none (xw w h sam ((sRow w h sam knd j w (blk, lost, came)).1) ((sRow w h sam knd j w (blk, lost, came)).2.1) ogr ((sRow w h sam knd j w (blk, lost, came)).2.2) sums sqs mrk que qd))
set_option maxHeartbeats 4000000 in
set_option maxRecDepth 20000 in
theorem ct_X0_spreadRow : q_Ct yX0_spreadRow cX0_spreadRow 7 none 3 75 sp_X0_spreadRow := by
  refine q_met (by decide) ?_
  intro x as Wd K hs ok fn
  obtain ⟨w, h, sam, blk, lost, ogr, came, sums, sqs, mrk, que, qd, j, knd, g, hj, rfl, rfl, hk⟩ := hs
  show q_W x 0 [some (.inr (.inr (some 0))), some (.inl (nI j)), some (.inl knd), none, none, none, none] [] (xw w h sam blk lost ogr came sums sqs mrk que qd)
  have hw := g.2.1
  have hh := g.2.2.2
  have L : ∀ (d i : Nat), d = w - i → i ≤ w → ∀ o3 : Option q_V, q_nol o3 = true → q_W x 48 [some (.inr (.inr (some 0))), some (.inl (nI j)), some (.inl knd), o3, some (.inl (sSt (sBk knd j))), some (.inl (sXi w (sBk knd j) i)), some (.inl (nI i))] [] (xw w h sam ((sRow w h sam knd j i (blk, lost, came)).1) ((sRow w h sam knd j i (blk, lost, came)).2.1) ogr ((sRow w h sam knd j i (blk, lost, came)).2.2) sums sqs mrk que qd) := by
    intro d
    induction d using Nat.strongRecOn with
    | _ d ih =>
      intro i hd hi o3 ho3
      refine q_iload ok rfl dX0_spreadRow_48 ?_
      refine q_aload_n ok rfl dX0_spreadRow_50 ?_
      refine xg_width ok dX0_spreadRow_51 ?_
      refine q_icmpN_ge 80 (by omega) (by omega) ok dX0_spreadRow_54 (by decide) (fun h54 => ?_) (fun h54 => ?_)
      · exact q_vret ok fn dX0_spreadRow_80 (by rw [show i = w by omega]; exact hk)
      · have hiw : i < w := by omega
        rw [sXi_n _ hiw]
        refine q_aload_n ok rfl dX0_spreadRow_57 ?_
        refine q_iload ok rfl dX0_spreadRow_58 ?_
        refine q_iload_n ok rfl dX0_spreadRow_60 ?_
        refine q_iload ok rfl dX0_spreadRow_61 ?_
        refine q_iload_n ok rfl dX0_spreadRow_63 ?_
        refine kX0_spreadSample g (sX_lt _ hiw) hj (by decide) (Nat.le_of_ble_eq_true rfl) ok dX0_spreadRow_64 ?_
        rw [← sXi_n _ hiw]
        refine q_iload ok rfl dX0_spreadRow_67 ?_
        refine q_iload ok rfl dX0_spreadRow_69 ?_
        refine q_iadd ok dX0_spreadRow_71 ?_
        refine q_istore_5 ok rfl dX0_spreadRow_72 ?_
        refine q_iincN_6 1 ok rfl (by decide) dX0_spreadRow_74 ?_
        refine q_goto 48 ok dX0_spreadRow_77 (by decide) ?_
        rw [sXi_s]
        exact ih _ (by omega) (i + 1) rfl (by omega) o3 ho3
  refine q_iload_n ok rfl dX0_spreadRow_0 ?_
  refine q_iconstv (nI 1) ok (by decide) dX0_spreadRow_1 ?_
  refine q_icmp_ne 16 ok dX0_spreadRow_2 (by decide) (fun h2 => ?_) (fun h2 => ?_)
  · refine q_iconstv (nI 0) ok (by decide) dX0_spreadRow_16 ?_
    refine q_istore_3 ok rfl dX0_spreadRow_17 ?_
    refine q_iload_n ok rfl dX0_spreadRow_18 ?_
    refine q_if_eq 26 ok dX0_spreadRow_19 (by decide) (fun _ => ?_) (fun hh => absurd (by decide) hh)
    refine q_iconstv (nI 1) ok (by decide) dX0_spreadRow_26 ?_
    refine q_istore_4 ok rfl dX0_spreadRow_27 ?_
    refine q_iload_n ok rfl dX0_spreadRow_29 ?_
    refine q_if_eq 42 ok dX0_spreadRow_30 (by decide) (fun _ => ?_) (fun hh => absurd (by decide) hh)
    refine q_iconstv (nI 0) ok (by decide) dX0_spreadRow_42 ?_
    refine q_istore_5 ok rfl dX0_spreadRow_43 ?_
    refine q_iconstv (nI 0) ok (by decide) dX0_spreadRow_45 ?_
    refine q_istore_6 ok rfl dX0_spreadRow_46 ?_
    first | (have eb : sBk knd j = true := decide_eq_true ⟨h2, h9⟩; have := L _ 0 rfl (Nat.zero_le _) (some (.inl (nI 1))) rfl; rw [eb] at this; simp only [sXi, sSt, if_true, sRow] at this; refine q_fgt _ ?_ this; exact ⟨rfl, rfl, rfl, rfl, rfl, by simp [nI_0], rfl, trivial⟩) | (have eb : sBk knd j = false := decide_eq_false (fun q => by first | exact h2 q.1 | exact h9 q.2); have := L _ 0 rfl (Nat.zero_le _) (some (.inl (nI 0))) rfl; rw [eb] at this; exact this)
  · refine q_iload_n ok rfl dX0_spreadRow_5 ?_
    refine q_iconstv (nI 2) ok (by decide) dX0_spreadRow_6 ?_
    refine q_iremN (by omega) (by omega) (by omega) ok dX0_spreadRow_7 ?_
    refine q_iconstv (nI 1) ok (by decide) dX0_spreadRow_8 ?_
    refine q_icmpN_ne 16 (by omega) (by omega) ok dX0_spreadRow_9 (by decide) (fun h9 => ?_) (fun h9 => ?_)
    · refine q_iconstv (nI 0) ok (by decide) dX0_spreadRow_16 ?_
      refine q_istore_3 ok rfl dX0_spreadRow_17 ?_
      refine q_iload_n ok rfl dX0_spreadRow_18 ?_
      refine q_if_eq 26 ok dX0_spreadRow_19 (by decide) (fun _ => ?_) (fun hh => absurd (by decide) hh)
      refine q_iconstv (nI 1) ok (by decide) dX0_spreadRow_26 ?_
      refine q_istore_4 ok rfl dX0_spreadRow_27 ?_
      refine q_iload_n ok rfl dX0_spreadRow_29 ?_
      refine q_if_eq 42 ok dX0_spreadRow_30 (by decide) (fun _ => ?_) (fun hh => absurd (by decide) hh)
      refine q_iconstv (nI 0) ok (by decide) dX0_spreadRow_42 ?_
      refine q_istore_5 ok rfl dX0_spreadRow_43 ?_
      refine q_iconstv (nI 0) ok (by decide) dX0_spreadRow_45 ?_
      refine q_istore_6 ok rfl dX0_spreadRow_46 ?_
      first | (have eb : sBk knd j = true := decide_eq_true ⟨h2, h9⟩; have := L _ 0 rfl (Nat.zero_le _) (some (.inl (nI 1))) rfl; rw [eb] at this; simp only [sXi, sSt, if_true, sRow] at this; refine q_fgt _ ?_ this; exact ⟨rfl, rfl, rfl, rfl, rfl, by simp [nI_0], rfl, trivial⟩) | (have eb : sBk knd j = false := decide_eq_false (fun q => by first | exact h2 q.1 | exact h9 q.2); have := L _ 0 rfl (Nat.zero_le _) (some (.inl (nI 0))) rfl; rw [eb] at this; exact this)
    · refine q_iconstv (nI 1) ok (by decide) dX0_spreadRow_12 ?_
      refine q_goto 17 ok dX0_spreadRow_13 (by decide) ?_
      refine q_istore_3 ok rfl dX0_spreadRow_17 ?_
      refine q_iload_n ok rfl dX0_spreadRow_18 ?_
      refine q_if_eq 26 ok dX0_spreadRow_19 (by decide) (fun hh => absurd hh (by decide)) (fun _ => ?_)
      refine q_iconstv (-1) ok (by decide) dX0_spreadRow_22 ?_
      refine q_goto 27 ok dX0_spreadRow_23 (by decide) ?_
      refine q_istore_4 ok rfl dX0_spreadRow_27 ?_
      refine q_iload_n ok rfl dX0_spreadRow_29 ?_
      refine q_if_eq 42 ok dX0_spreadRow_30 (by decide) (fun hh => absurd hh (by decide)) (fun _ => ?_)
      refine q_aload_n ok rfl dX0_spreadRow_33 ?_
      refine xg_width ok dX0_spreadRow_34 ?_
      refine q_iconstv (nI 1) ok (by decide) dX0_spreadRow_37 ?_
      refine q_isub ok dX0_spreadRow_38 ?_
      refine q_goto 43 ok dX0_spreadRow_39 (by decide) ?_
      refine q_istore_5 ok rfl dX0_spreadRow_43 ?_
      refine q_iconstv (nI 0) ok (by decide) dX0_spreadRow_45 ?_
      refine q_istore_6 ok rfl dX0_spreadRow_46 ?_
      first | (have eb : sBk knd j = true := decide_eq_true ⟨h2, h9⟩; have := L _ 0 rfl (Nat.zero_le _) (some (.inl (nI 1))) rfl; rw [eb] at this; simp only [sXi, sSt, if_true, sRow] at this; refine q_fgt _ ?_ this; exact ⟨rfl, rfl, rfl, rfl, rfl, by simp [nI_0], rfl, trivial⟩) | (have eb : sBk knd j = false := decide_eq_false (fun q => by first | exact h2 q.1 | exact h9 q.2); have := L _ 0 rfl (Nat.zero_le _) (some (.inl (nI 0))) rfl; rw [eb] at this; exact this)
theorem kX0_spreadRow {x : q_X} {cc : ByteArray} {fr lo pc : Nat} {lv : List (Option q_V)} {st : List q_V} {w : Nat} {h : Nat} {sam : Nat → Nat} {blk : Nat → Bool} {lost : Int64} {ogr : Nat → Nat} {came : Nat → Int32} {sums : Nat → Int64} {sqs : Nat → Int64} {mrk : Nat → Bool} {que : Nat → Nat} {qd : Nat} {j : Nat} {knd : Int32} (g : q_g w h) (hj : j < h) (hR : 3 + 1 ≤ fr ∧ 8 + (7 + 11) + 75 ≤ lo) (hst : (st.map (fun v => if q_nol (some v) then 1 else 2)).sum ≤ 8) (ok : q_ok x cc RX0 fr lo) (hd : decode cc pc = .ok (.invokevirtual 105, 3)) (kk : q_W x (pc + 3) lv (st) (xw w h sam ((sRow w h sam knd j w (blk, lost, came)).1) ((sRow w h sam knd j w (blk, lost, came)).2.1) ogr ((sRow w h sam knd j w (blk, lost, came)).2.2) sums sqs mrk que qd)) : q_W x pc lv (.inl knd :: .inl (nI j) :: .inr (.inr (some 0)) :: st) (xw w h sam blk lost ogr came sums sqs mrk que qd) :=
  q_callV [.inl (nI j), .inl knd] ct_X0_spreadRow lkX0_X0_spreadRow dc_X0_spreadRow rfl ok rfl hR hst (Nat.le_of_ble_eq_true rfl) hd ⟨w, h, sam, blk, lost, ogr, came, sums, sqs, mrk, que, qd, j, knd, g, hj, rfl, rfl, kk⟩
def bB (w h : Nat) (blk : Nat → Bool) (a b : Int32) : Bool := inI w h a b && blk (pI w a b)
def isE (w h : Nat) (blk : Nat → Bool) (i j : Nat) : Bool := bB w h blk (nI i) (nI j) && !(bB w h blk (nI i - nI 1) (nI j) && bB w h blk (nI (i + 1)) (nI j) && bB w h blk (nI i) (nI j - nI 1) && bB w h blk (nI i) (nI (j + 1)))
def sp_X0_isBlack : List q_V → List q_E → (Option q_V → List q_E → Prop) → Prop := fun as Wd K => ∃ (w : Nat) (h : Nat) (sam : Nat → Nat) (blk : Nat → Bool) (lost : Int64) (ogr : Nat → Nat) (came : Nat → Int32) (sums : Nat → Int64) (sqs : Nat → Int64) (mrk : Nat → Bool) (que : Nat → Nat) (qd : Nat) (a : Int32) (b : Int32), (q_g w h) ∧ as = [.inr (.inr (some 0)), .inl a, .inl b] ∧ Wd = (xw w h sam blk lost ogr came sums sqs mrk que qd) ∧ (K (some (.inl (bI (bB w h blk a b)))) (xw w h sam blk lost ogr came sums sqs mrk que qd))
set_option maxHeartbeats 4000000 in
set_option maxRecDepth 20000 in
theorem ct_X0_isBlack : q_Ct yX0_isBlack cX0_isBlack 3 (some .boolean) 1 22 sp_X0_isBlack := by
  refine q_met (by decide) ?_
  intro x as Wd K hs ok fn
  obtain ⟨w, h, sam, blk, lost, ogr, came, sums, sqs, mrk, que, qd, a, b, g, rfl, rfl, hk⟩ := hs
  show q_W x 0 [some (.inr (.inr (some 0))), some (.inl a), some (.inl b)] [] (xw w h sam blk lost ogr came sums sqs mrk que qd)
  refine q_aload_n ok rfl dX0_isBlack_0 ?_
  refine q_iload_n ok rfl dX0_isBlack_1 ?_
  refine q_iload_n ok rfl dX0_isBlack_2 ?_
  refine kX0_isInside (by decide) (Nat.le_of_ble_eq_true rfl) ok dX0_isBlack_3 ?_
  refine q_ifb_eq 27 ok dX0_isBlack_6 (by decide) (fun h6 => ?_) (fun h6 => ?_)
  · refine q_iconstv (nI 0) ok (by decide) dX0_isBlack_27 ?_
    exact q_zret ok fn dX0_isBlack_28 (by decide) (by first | (have ee : bB w h blk (nI i) (nI j) = true := (by unfold bB; rw [h6, ep, h20]; rfl); rw [ee] at hk; exact hk) | (have ee : bB w h blk (nI i) (nI j) = false := (by unfold bB; rw [h6, ep, h20]; rfl); rw [ee] at hk; exact hk) | (have ee : bB w h blk a b = false := (by unfold bB; rw [h6]; rfl); rw [ee] at hk; exact hk))
  · obtain ⟨i, j, hi, hj, rfl, rfl⟩ := inI_o g h6
    have hlt := pl_lt hi hj
    have hw := g.2.1
    have hh := g.2.2.2
    have ep := pI_n (w := w) (i := i) (j := j) (by omega) (by omega)
    refine q_aload_n ok rfl dX0_isBlack_9 ?_
    refine xg_black ok dX0_isBlack_10 ?_
    refine q_aload_n ok rfl dX0_isBlack_13 ?_
    refine q_iload_n ok rfl dX0_isBlack_14 ?_
    refine q_iload_n ok rfl dX0_isBlack_15 ?_
    refine kX0_placeOf (by decide) (Nat.le_of_ble_eq_true rfl) ok dX0_isBlack_16 ?_
    refine xl_blk g (by omega) ok dX0_isBlack_19 ?_
    refine q_ifb_eq 27 ok dX0_isBlack_20 (by decide) (fun h20 => ?_) (fun h20 => ?_)
    · refine q_iconstv (nI 0) ok (by decide) dX0_isBlack_27 ?_
      exact q_zret ok fn dX0_isBlack_28 (by decide) (by first | (have ee : bB w h blk (nI i) (nI j) = true := (by unfold bB; rw [h6, ep, h20]; rfl); rw [ee] at hk; exact hk) | (have ee : bB w h blk (nI i) (nI j) = false := (by unfold bB; rw [h6, ep, h20]; rfl); rw [ee] at hk; exact hk) | (have ee : bB w h blk a b = false := (by unfold bB; rw [h6]; rfl); rw [ee] at hk; exact hk))
    · refine q_iconstv (nI 1) ok (by decide) dX0_isBlack_23 ?_
      refine q_goto 28 ok dX0_isBlack_24 (by decide) ?_
      exact q_zret ok fn dX0_isBlack_28 (by decide) (by first | (have ee : bB w h blk (nI i) (nI j) = true := (by unfold bB; rw [h6, ep, h20]; rfl); rw [ee] at hk; exact hk) | (have ee : bB w h blk (nI i) (nI j) = false := (by unfold bB; rw [h6, ep, h20]; rfl); rw [ee] at hk; exact hk) | (have ee : bB w h blk a b = false := (by unfold bB; rw [h6]; rfl); rw [ee] at hk; exact hk))
theorem kX0_isBlack {x : q_X} {cc : ByteArray} {fr lo pc : Nat} {lv : List (Option q_V)} {st : List q_V} {w : Nat} {h : Nat} {sam : Nat → Nat} {blk : Nat → Bool} {lost : Int64} {ogr : Nat → Nat} {came : Nat → Int32} {sums : Nat → Int64} {sqs : Nat → Int64} {mrk : Nat → Bool} {que : Nat → Nat} {qd : Nat} {a : Int32} {b : Int32} (g : q_g w h) (hR : 1 + 1 ≤ fr ∧ 8 + (3 + 11) + 22 ≤ lo) (hst : (st.map (fun v => if q_nol (some v) then 1 else 2)).sum ≤ 8) (ok : q_ok x cc RX0 fr lo) (hd : decode cc pc = .ok (.invokevirtual 220, 3)) (kk : q_W x (pc + 3) lv ((.inl (bI (bB w h blk a b))) :: st) (xw w h sam blk lost ogr came sums sqs mrk que qd)) : q_W x pc lv (.inl b :: .inl a :: .inr (.inr (some 0)) :: st) (xw w h sam blk lost ogr came sums sqs mrk que qd) :=
  q_callV [.inl a, .inl b] ct_X0_isBlack lkX0_X0_isBlack dc_X0_isBlack rfl ok rfl hR hst (Nat.le_of_ble_eq_true rfl) hd ⟨w, h, sam, blk, lost, ogr, came, sums, sqs, mrk, que, qd, a, b, g, rfl, rfl, kk⟩
def sp_X0_isEdge : List q_V → List q_E → (Option q_V → List q_E → Prop) → Prop := fun as Wd K => ∃ (w : Nat) (h : Nat) (sam : Nat → Nat) (blk : Nat → Bool) (lost : Int64) (ogr : Nat → Nat) (came : Nat → Int32) (sums : Nat → Int64) (sqs : Nat → Int64) (mrk : Nat → Bool) (que : Nat → Nat) (qd : Nat) (i : Nat) (j : Nat), (q_g w h) ∧ as = [.inr (.inr (some 0)), .inl (nI i), .inl (nI j)] ∧ Wd = (xw w h sam blk lost ogr came sums sqs mrk que qd) ∧ (K (some (.inl (bI (isE w h blk i j)))) (xw w h sam blk lost ogr came sums sqs mrk que qd))
set_option maxHeartbeats 4000000 in
set_option maxRecDepth 20000 in
theorem ct_X0_isEdge : q_Ct yX0_isEdge cX0_isEdge 3 (some .boolean) 2 44 sp_X0_isEdge := by
  refine q_met (by decide) ?_
  intro x as Wd K hs ok fn
  obtain ⟨w, h, sam, blk, lost, ogr, came, sums, sqs, mrk, que, qd, i, j, g, rfl, rfl, hk⟩ := hs
  show q_W x 0 [some (.inr (.inr (some 0))), some (.inl (nI i)), some (.inl (nI j))] [] (xw w h sam blk lost ogr came sums sqs mrk que qd)
  refine q_aload_n ok rfl dX0_isEdge_0 ?_
  refine q_iload_n ok rfl dX0_isEdge_1 ?_
  refine q_iload_n ok rfl dX0_isEdge_2 ?_
  refine kX0_isBlack g (by decide) (Nat.le_of_ble_eq_true rfl) ok dX0_isEdge_3 ?_
  refine q_ifb_eq 57 ok dX0_isEdge_6 (by decide) (fun h6 => ?_) (fun h6 => ?_)
  · refine q_iconstv (nI 0) ok (by decide) dX0_isEdge_57 ?_
    exact q_zret ok fn dX0_isEdge_58 (by decide) (by have ee : isE w h blk i j = false := (by unfold isE; first | (rw [h6]; rfl) | (rw [h6, h17]; rfl) | (rw [h6, h17, h28]; rfl) | (rw [h6, h17, h28, h39]; rfl) | (rw [h6, h17, h28, h39, h50]; rfl)); rw [ee] at hk; exact hk)
  · refine q_aload_n ok rfl dX0_isEdge_9 ?_
    refine q_iload_n ok rfl dX0_isEdge_10 ?_
    refine q_iconstv (nI 1) ok (by decide) dX0_isEdge_11 ?_
    refine q_isub ok dX0_isEdge_12 ?_
    refine q_iload_n ok rfl dX0_isEdge_13 ?_
    refine kX0_isBlack g (by decide) (Nat.le_of_ble_eq_true rfl) ok dX0_isEdge_14 ?_
    refine q_ifb_eq 53 ok dX0_isEdge_17 (by decide) (fun h17 => ?_) (fun h17 => ?_)
    · refine q_iconstv (nI 1) ok (by decide) dX0_isEdge_53 ?_
      refine q_goto 58 ok dX0_isEdge_54 (by decide) ?_
      exact q_zret ok fn dX0_isEdge_58 (by decide) (by have ee : isE w h blk i j = true := (by unfold isE; first | (rw [h6]; rfl) | (rw [h6, h17]; rfl) | (rw [h6, h17, h28]; rfl) | (rw [h6, h17, h28, h39]; rfl) | (rw [h6, h17, h28, h39, h50]; rfl)); rw [ee] at hk; exact hk)
    · refine q_aload_n ok rfl dX0_isEdge_20 ?_
      refine q_iload_n ok rfl dX0_isEdge_21 ?_
      refine q_iconstv (nI 1) ok (by decide) dX0_isEdge_22 ?_
      refine q_iaddN ok dX0_isEdge_23 ?_
      refine q_iload_n ok rfl dX0_isEdge_24 ?_
      refine kX0_isBlack g (by decide) (Nat.le_of_ble_eq_true rfl) ok dX0_isEdge_25 ?_
      refine q_ifb_eq 53 ok dX0_isEdge_28 (by decide) (fun h28 => ?_) (fun h28 => ?_)
      · refine q_iconstv (nI 1) ok (by decide) dX0_isEdge_53 ?_
        refine q_goto 58 ok dX0_isEdge_54 (by decide) ?_
        exact q_zret ok fn dX0_isEdge_58 (by decide) (by have ee : isE w h blk i j = true := (by unfold isE; first | (rw [h6]; rfl) | (rw [h6, h17]; rfl) | (rw [h6, h17, h28]; rfl) | (rw [h6, h17, h28, h39]; rfl) | (rw [h6, h17, h28, h39, h50]; rfl)); rw [ee] at hk; exact hk)
      · refine q_aload_n ok rfl dX0_isEdge_31 ?_
        refine q_iload_n ok rfl dX0_isEdge_32 ?_
        refine q_iload_n ok rfl dX0_isEdge_33 ?_
        refine q_iconstv (nI 1) ok (by decide) dX0_isEdge_34 ?_
        refine q_isub ok dX0_isEdge_35 ?_
        refine kX0_isBlack g (by decide) (Nat.le_of_ble_eq_true rfl) ok dX0_isEdge_36 ?_
        refine q_ifb_eq 53 ok dX0_isEdge_39 (by decide) (fun h39 => ?_) (fun h39 => ?_)
        · refine q_iconstv (nI 1) ok (by decide) dX0_isEdge_53 ?_
          refine q_goto 58 ok dX0_isEdge_54 (by decide) ?_
          exact q_zret ok fn dX0_isEdge_58 (by decide) (by have ee : isE w h blk i j = true := (by unfold isE; first | (rw [h6]; rfl) | (rw [h6, h17]; rfl) | (rw [h6, h17, h28]; rfl) | (rw [h6, h17, h28, h39]; rfl) | (rw [h6, h17, h28, h39, h50]; rfl)); rw [ee] at hk; exact hk)
        · refine q_aload_n ok rfl dX0_isEdge_42 ?_
          refine q_iload_n ok rfl dX0_isEdge_43 ?_
          refine q_iload_n ok rfl dX0_isEdge_44 ?_
          refine q_iconstv (nI 1) ok (by decide) dX0_isEdge_45 ?_
          refine q_iaddN ok dX0_isEdge_46 ?_
          refine kX0_isBlack g (by decide) (Nat.le_of_ble_eq_true rfl) ok dX0_isEdge_47 ?_
          refine q_ifb_ne 57 ok dX0_isEdge_50 (by decide) (fun h50 => ?_) (fun h50 => ?_)
          · refine q_iconstv (nI 0) ok (by decide) dX0_isEdge_57 ?_
            exact q_zret ok fn dX0_isEdge_58 (by decide) (by have ee : isE w h blk i j = false := (by unfold isE; first | (rw [h6]; rfl) | (rw [h6, h17]; rfl) | (rw [h6, h17, h28]; rfl) | (rw [h6, h17, h28, h39]; rfl) | (rw [h6, h17, h28, h39, h50]; rfl)); rw [ee] at hk; exact hk)
          · refine q_iconstv (nI 1) ok (by decide) dX0_isEdge_53 ?_
            refine q_goto 58 ok dX0_isEdge_54 (by decide) ?_
            exact q_zret ok fn dX0_isEdge_58 (by decide) (by have ee : isE w h blk i j = true := (by unfold isE; first | (rw [h6]; rfl) | (rw [h6, h17]; rfl) | (rw [h6, h17, h28]; rfl) | (rw [h6, h17, h28, h39]; rfl) | (rw [h6, h17, h28, h39, h50]; rfl)); rw [ee] at hk; exact hk)
theorem kX0_isEdge {x : q_X} {cc : ByteArray} {fr lo pc : Nat} {lv : List (Option q_V)} {st : List q_V} {w : Nat} {h : Nat} {sam : Nat → Nat} {blk : Nat → Bool} {lost : Int64} {ogr : Nat → Nat} {came : Nat → Int32} {sums : Nat → Int64} {sqs : Nat → Int64} {mrk : Nat → Bool} {que : Nat → Nat} {qd : Nat} {i : Nat} {j : Nat} (g : q_g w h) (hR : 2 + 1 ≤ fr ∧ 8 + (3 + 11) + 44 ≤ lo) (hst : (st.map (fun v => if q_nol (some v) then 1 else 2)).sum ≤ 8) (ok : q_ok x cc RX0 fr lo) (hd : decode cc pc = .ok (.invokevirtual 144, 3)) (kk : q_W x (pc + 3) lv ((.inl (bI (isE w h blk i j))) :: st) (xw w h sam blk lost ogr came sums sqs mrk que qd)) : q_W x pc lv (.inl (nI j) :: .inl (nI i) :: .inr (.inr (some 0)) :: st) (xw w h sam blk lost ogr came sums sqs mrk que qd) :=
  q_callV [.inl (nI i), .inl (nI j)] ct_X0_isEdge lkX0_X0_isEdge dc_X0_isEdge rfl ok rfl hR hst (Nat.le_of_ble_eq_true rfl) hd ⟨w, h, sam, blk, lost, ogr, came, sums, sqs, mrk, que, qd, i, j, g, rfl, rfl, kk⟩
def sp_X0_enqueue : List q_V → List q_E → (Option q_V → List q_E → Prop) → Prop := fun as Wd K => ∃ (w : Nat) (h : Nat) (sam : Nat → Nat) (blk : Nat → Bool) (lost : Int64) (ogr : Nat → Nat) (came : Nat → Int32) (sums : Nat → Int64) (sqs : Nat → Int64) (mrk : Nat → Bool) (que : Nat → Nat) (qd : Nat) (p : Nat), (q_g w h) ∧ (qd < w * h) ∧ as = [.inr (.inr (some 0)), .inl (nI p)] ∧ Wd = (xw w h sam blk lost ogr came sums sqs mrk que qd) ∧ (K none (xw w h sam blk lost ogr came sums sqs mrk (va_up que qd p) (qd + 1)))
set_option maxHeartbeats 4000000 in
set_option maxRecDepth 20000 in
theorem ct_X0_enqueue : q_Ct yX0_enqueue cX0_enqueue 2 none 0 0 sp_X0_enqueue := by
  refine q_met (by decide) ?_
  intro x as Wd K hs ok fn
  obtain ⟨w, h, sam, blk, lost, ogr, came, sums, sqs, mrk, que, qd, p, g, hq, rfl, rfl, hk⟩ := hs
  show q_W x 0 [some (.inr (.inr (some 0))), some (.inl (nI p))] [] (xw w h sam blk lost ogr came sums sqs mrk que qd)
  have hn := q_gn g
  refine q_aload_n ok rfl dX0_enqueue_0 ?_
  refine xg_queued ok dX0_enqueue_1 ?_
  refine q_ifN_lt (by omega) ok dX0_enqueue_4 39 (by decide) ?_
  refine q_aload_n ok rfl dX0_enqueue_7 ?_
  refine xg_queued ok dX0_enqueue_8 ?_
  refine q_aload_n ok rfl dX0_enqueue_11 ?_
  refine xg_queue ok dX0_enqueue_12 ?_
  refine xn_que ok dX0_enqueue_15 ?_
  refine q_icmpN_ge 39 (by omega) (by omega) ok dX0_enqueue_16 (by decide) (fun h16 => ?_) (fun h16 => ?_)
  · exact absurd h16 (by omega)
  · refine q_aload_n ok rfl dX0_enqueue_19 ?_
    refine xg_queue ok dX0_enqueue_20 ?_
    refine q_aload_n ok rfl dX0_enqueue_23 ?_
    refine xg_queued ok dX0_enqueue_24 ?_
    refine q_iload_n ok rfl dX0_enqueue_27 ?_
    refine xs_que g (by omega) ok dX0_enqueue_28 ?_
    refine q_aload_n ok rfl dX0_enqueue_29 ?_
    refine q_dupa ok dX0_enqueue_30 ?_
    refine xg_queued ok dX0_enqueue_31 ?_
    refine q_iconstv (nI 1) ok (by decide) dX0_enqueue_34 ?_
    refine q_iaddN ok dX0_enqueue_35 ?_
    refine xp_queued ok dX0_enqueue_36 ?_
    exact q_vret ok fn dX0_enqueue_39 hk
theorem kX0_enqueue {x : q_X} {cc : ByteArray} {fr lo pc : Nat} {lv : List (Option q_V)} {st : List q_V} {w : Nat} {h : Nat} {sam : Nat → Nat} {blk : Nat → Bool} {lost : Int64} {ogr : Nat → Nat} {came : Nat → Int32} {sums : Nat → Int64} {sqs : Nat → Int64} {mrk : Nat → Bool} {que : Nat → Nat} {qd : Nat} {p : Nat} (g : q_g w h) (hq : qd < w * h) (hR : 0 + 1 ≤ fr ∧ 8 + (2 + 11) + 0 ≤ lo) (hst : (st.map (fun v => if q_nol (some v) then 1 else 2)).sum ≤ 8) (ok : q_ok x cc RX0 fr lo) (hd : decode cc pc = .ok (.invokevirtual 124, 3)) (kk : q_W x (pc + 3) lv (st) (xw w h sam blk lost ogr came sums sqs mrk (va_up que qd p) (qd + 1))) : q_W x pc lv (.inl (nI p) :: .inr (.inr (some 0)) :: st) (xw w h sam blk lost ogr came sums sqs mrk que qd) :=
  q_callV [.inl (nI p)] ct_X0_enqueue lkX0_X0_enqueue dc_X0_enqueue rfl ok rfl hR hst (Nat.le_of_ble_eq_true rfl) hd ⟨w, h, sam, blk, lost, ogr, came, sums, sqs, mrk, que, qd, p, g, hq, rfl, rfl, kk⟩
def sp_X0_unmarkAll : List q_V → List q_E → (Option q_V → List q_E → Prop) → Prop := fun as Wd K => ∃ (w : Nat) (h : Nat) (sam : Nat → Nat) (blk : Nat → Bool) (lost : Int64) (ogr : Nat → Nat) (came : Nat → Int32) (sums : Nat → Int64) (sqs : Nat → Int64) (mrk : Nat → Bool) (que : Nat → Nat) (qd : Nat), (q_g w h) ∧ as = [.inr (.inr (some 0))] ∧ Wd = (xw w h sam blk lost ogr came sums sqs mrk que qd) ∧ (K none (xw w h sam blk lost ogr came sums sqs (fun k => if k < w * h then false else mrk k) que qd))
set_option maxHeartbeats 4000000 in
set_option maxRecDepth 20000 in
theorem ct_X0_unmarkAll : q_Ct yX0_unmarkAll cX0_unmarkAll 2 none 0 0 sp_X0_unmarkAll := by
  refine q_met (by decide) ?_
  intro x as Wd K hs ok fn
  obtain ⟨w, h, sam, blk, lost, ogr, came, sums, sqs, mrk, que, qd, g, rfl, rfl, hk⟩ := hs
  show q_W x 0 [some (.inr (.inr (some 0))), none] [] (xw w h sam blk lost ogr came sums sqs mrk que qd)
  have hn := q_gn g
  have L : ∀ (d i : Nat), d = w * h - i → i ≤ w * h → q_W x 2 [some (.inr (.inr (some 0))), some (.inl (nI i))] [] (xw w h sam blk lost ogr came sums sqs (fun k => if k < i then false else mrk k) que qd) := by
    intro d
    induction d using Nat.strongRecOn with
    | _ d ih =>
      intro i hd hi
      refine q_iload_n ok rfl dX0_unmarkAll_2 ?_
      refine q_aload_n ok rfl dX0_unmarkAll_3 ?_
      refine xg_count ok dX0_unmarkAll_4 ?_
      refine q_icmpN_ge 23 (by omega) (by omega) ok dX0_unmarkAll_7 (by decide) (fun h7 => ?_) (fun h7 => ?_)
      · exact q_vret ok fn dX0_unmarkAll_23 (by rw [show i = w * h by omega]; exact hk)
      · refine q_aload_n ok rfl dX0_unmarkAll_10 ?_
        refine xg_marked ok dX0_unmarkAll_11 ?_
        refine q_iload_n ok rfl dX0_unmarkAll_14 ?_
        refine q_iconstv (nI 0) ok (by decide) dX0_unmarkAll_15 ?_
        refine xs_mrk (v := false) g (by omega) ok dX0_unmarkAll_16 ?_
        refine q_iincN_1 1 ok rfl (by decide) dX0_unmarkAll_17 ?_
        refine q_goto 2 ok dX0_unmarkAll_20 (by decide) ?_
        rw [pu_step (F := fun _ => false)]
        exact ih _ (by omega) (i + 1) rfl (by omega)
  refine q_iconstv (nI 0) ok (by decide) dX0_unmarkAll_0 ?_
  refine q_istore_1 ok rfl dX0_unmarkAll_1 ?_
  have := L _ 0 rfl (Nat.zero_le _)
  rw [pu_0] at this
  exact this
theorem kX0_unmarkAll {x : q_X} {cc : ByteArray} {fr lo pc : Nat} {lv : List (Option q_V)} {st : List q_V} {w : Nat} {h : Nat} {sam : Nat → Nat} {blk : Nat → Bool} {lost : Int64} {ogr : Nat → Nat} {came : Nat → Int32} {sums : Nat → Int64} {sqs : Nat → Int64} {mrk : Nat → Bool} {que : Nat → Nat} {qd : Nat} (g : q_g w h) (hR : 0 + 1 ≤ fr ∧ 8 + (2 + 11) + 0 ≤ lo) (hst : (st.map (fun v => if q_nol (some v) then 1 else 2)).sum ≤ 8) (ok : q_ok x cc RX0 fr lo) (hd : decode cc pc = .ok (.invokevirtual 201, 3)) (kk : q_W x (pc + 3) lv (st) (xw w h sam blk lost ogr came sums sqs (fun k => if k < w * h then false else mrk k) que qd)) : q_W x pc lv (.inr (.inr (some 0)) :: st) (xw w h sam blk lost ogr came sums sqs mrk que qd) :=
  q_callV [] ct_X0_unmarkAll lkX0_X0_unmarkAll dc_X0_unmarkAll rfl ok rfl hR hst (Nat.le_of_ble_eq_true rfl) hd ⟨w, h, sam, blk, lost, ogr, came, sums, sqs, mrk, que, qd, g, rfl, rfl, kk⟩
def gC (w h : Nat) (blk mrk : Nat → Bool) (col : Bool) (a b : Int32) : Bool := inI w h a b && (blk (pI w a b) == col) && !mrk (pI w a b)
def sp_X0_gather : List q_V → List q_E → (Option q_V → List q_E → Prop) → Prop := fun as Wd K => ∃ (w : Nat) (h : Nat) (sam : Nat → Nat) (blk : Nat → Bool) (lost : Int64) (ogr : Nat → Nat) (came : Nat → Int32) (sums : Nat → Int64) (sqs : Nat → Int64) (mrk : Nat → Bool) (que : Nat → Nat) (qd : Nat) (a : Int32) (b : Int32) (col : Bool), (q_g w h) ∧ (∀ k, k < w * h → mrk k = false → qd < w * h) ∧ as = [.inr (.inr (some 0)), .inl a, .inl b, .inl (bI col)] ∧ Wd = (xw w h sam blk lost ogr came sums sqs mrk que qd) ∧ (K none (xw w h sam blk lost ogr came sums sqs (if gC w h blk mrk col a b = true then va_up mrk (pI w a b) true else mrk) (if gC w h blk mrk col a b = true then va_up que qd (pI w a b) else que) (if gC w h blk mrk col a b = true then qd + 1 else qd)))
set_option maxHeartbeats 4000000 in
set_option maxRecDepth 20000 in
theorem ct_X0_gather : q_Ct yX0_gather cX0_gather 5 none 1 22 sp_X0_gather := by
  refine q_met (by decide) ?_
  intro x as Wd K hs ok fn
  obtain ⟨w, h, sam, blk, lost, ogr, came, sums, sqs, mrk, que, qd, a, b, col, g, hq, rfl, rfl, hk⟩ := hs
  show q_W x 0 [some (.inr (.inr (some 0))), some (.inl a), some (.inl b), some (.inl (bI col)), none] [] (xw w h sam blk lost ogr came sums sqs mrk que qd)
  refine q_aload_n ok rfl dX0_gather_0 ?_
  refine q_iload_n ok rfl dX0_gather_1 ?_
  refine q_iload_n ok rfl dX0_gather_2 ?_
  refine kX0_isInside (by decide) (Nat.le_of_ble_eq_true rfl) ok dX0_gather_3 ?_
  refine q_ifb_ne 10 ok dX0_gather_6 (by decide) (fun h6 => ?_) (fun h6 => ?_)
  · obtain ⟨i, j, hi, hj, rfl, rfl⟩ := inI_o g h6
    have hlt := pl_lt hi hj
    have hw := g.2.1
    have hh := g.2.2.2
    have ep := pI_n (w := w) (i := i) (j := j) (by omega) (by omega)
    refine q_aload_n ok rfl dX0_gather_10 ?_
    refine q_iload_n ok rfl dX0_gather_11 ?_
    refine q_iload_n ok rfl dX0_gather_12 ?_
    refine kX0_placeOf (by decide) (Nat.le_of_ble_eq_true rfl) ok dX0_gather_13 ?_
    refine q_istore_4 ok rfl dX0_gather_16 ?_
    refine q_aload_n ok rfl dX0_gather_18 ?_
    refine xg_black ok dX0_gather_19 ?_
    refine q_iload ok rfl dX0_gather_22 ?_
    refine xl_blk g (by omega) ok dX0_gather_24 ?_
    refine q_iload_n ok rfl dX0_gather_25 ?_
    refine q_icmpb_ne 53 ok dX0_gather_26 (by decide) (fun h26 => ?_) (fun h26 => ?_)
    · exact q_vret ok fn dX0_gather_53 (by first | (have ee : gC w h blk mrk col (nI i) (nI j) = true := (by unfold gC; rw [h6, ep, h26, h36]; simp); rw [ee, ep] at hk; exact hk) | (have ee : gC w h blk mrk col (nI i) (nI j) = false := (by unfold gC; rw [h6, ep, h36]; simp); rw [ee] at hk; exact hk) | (have ee : gC w h blk mrk col (nI i) (nI j) = false := (by unfold gC; rw [h6, ep]; simp [h26]); rw [ee] at hk; exact hk) | (have ee : gC w h blk mrk col a b = false := (by unfold gC; rw [h6]; simp); rw [ee] at hk; exact hk))
    · refine q_aload_n ok rfl dX0_gather_29 ?_
      refine xg_marked ok dX0_gather_30 ?_
      refine q_iload ok rfl dX0_gather_33 ?_
      refine xl_mrk g (by omega) ok dX0_gather_35 ?_
      refine q_ifb_ne 53 ok dX0_gather_36 (by decide) (fun h36 => ?_) (fun h36 => ?_)
      · exact q_vret ok fn dX0_gather_53 (by first | (have ee : gC w h blk mrk col (nI i) (nI j) = true := (by unfold gC; rw [h6, ep, h26, h36]; simp); rw [ee, ep] at hk; exact hk) | (have ee : gC w h blk mrk col (nI i) (nI j) = false := (by unfold gC; rw [h6, ep, h36]; simp); rw [ee] at hk; exact hk) | (have ee : gC w h blk mrk col (nI i) (nI j) = false := (by unfold gC; rw [h6, ep]; simp [h26]); rw [ee] at hk; exact hk) | (have ee : gC w h blk mrk col a b = false := (by unfold gC; rw [h6]; simp); rw [ee] at hk; exact hk))
      · refine q_aload_n ok rfl dX0_gather_39 ?_
        refine xg_marked ok dX0_gather_40 ?_
        refine q_iload ok rfl dX0_gather_43 ?_
        refine q_iconstv (nI 1) ok (by decide) dX0_gather_45 ?_
        refine xs_mrk (v := true) g (by omega) ok dX0_gather_46 ?_
        refine q_aload_n ok rfl dX0_gather_47 ?_
        refine q_iload ok rfl dX0_gather_48 ?_
        refine kX0_enqueue g (hq _ hlt h36) (by decide) (Nat.le_of_ble_eq_true rfl) ok dX0_gather_50 ?_
        exact q_vret ok fn dX0_gather_53 (by first | (have ee : gC w h blk mrk col (nI i) (nI j) = true := (by unfold gC; rw [h6, ep, h26, h36]; simp); rw [ee, ep] at hk; exact hk) | (have ee : gC w h blk mrk col (nI i) (nI j) = false := (by unfold gC; rw [h6, ep, h36]; simp); rw [ee] at hk; exact hk) | (have ee : gC w h blk mrk col (nI i) (nI j) = false := (by unfold gC; rw [h6, ep]; simp [h26]); rw [ee] at hk; exact hk) | (have ee : gC w h blk mrk col a b = false := (by unfold gC; rw [h6]; simp); rw [ee] at hk; exact hk))
  · exact q_vret ok fn dX0_gather_9 (by first | (have ee : gC w h blk mrk col (nI i) (nI j) = true := (by unfold gC; rw [h6, ep, h26, h36]; simp); rw [ee, ep] at hk; exact hk) | (have ee : gC w h blk mrk col (nI i) (nI j) = false := (by unfold gC; rw [h6, ep, h36]; simp); rw [ee] at hk; exact hk) | (have ee : gC w h blk mrk col (nI i) (nI j) = false := (by unfold gC; rw [h6, ep]; simp [h26]); rw [ee] at hk; exact hk) | (have ee : gC w h blk mrk col a b = false := (by unfold gC; rw [h6]; simp); rw [ee] at hk; exact hk))
theorem kX0_gather {x : q_X} {cc : ByteArray} {fr lo pc : Nat} {lv : List (Option q_V)} {st : List q_V} {w : Nat} {h : Nat} {sam : Nat → Nat} {blk : Nat → Bool} {lost : Int64} {ogr : Nat → Nat} {came : Nat → Int32} {sums : Nat → Int64} {sqs : Nat → Int64} {mrk : Nat → Bool} {que : Nat → Nat} {qd : Nat} {a : Int32} {b : Int32} {col : Bool} (g : q_g w h) (hq : ∀ k, k < w * h → mrk k = false → qd < w * h) (hR : 1 + 1 ≤ fr ∧ 8 + (5 + 11) + 22 ≤ lo) (hst : (st.map (fun v => if q_nol (some v) then 1 else 2)).sum ≤ 8) (ok : q_ok x cc RX0 fr lo) (hd : decode cc pc = .ok (.invokevirtual 197, 3)) (kk : q_W x (pc + 3) lv (st) (xw w h sam blk lost ogr came sums sqs (if gC w h blk mrk col a b = true then va_up mrk (pI w a b) true else mrk) (if gC w h blk mrk col a b = true then va_up que qd (pI w a b) else que) (if gC w h blk mrk col a b = true then qd + 1 else qd))) : q_W x pc lv (.inl (bI col) :: .inl b :: .inl a :: .inr (.inr (some 0)) :: st) (xw w h sam blk lost ogr came sums sqs mrk que qd) :=
  q_callV [.inl a, .inl b, .inl (bI col)] ct_X0_gather lkX0_X0_gather dc_X0_gather rfl ok rfl hR hst (Nat.le_of_ble_eq_true rfl) hd ⟨w, h, sam, blk, lost, ogr, came, sums, sqs, mrk, que, qd, a, b, col, g, hq, rfl, rfl, kk⟩
theorem pc_lt {w h i j : Nat} (hi : i ≤ w) (hj : j ≤ h) : j * (w + 1) + i < (w + 1) * (h + 1) := pl_lt (Nat.lt_succ_of_le hi) (Nat.lt_succ_of_le hj)
def sp_X0_sumBetween_5 : List q_V → List q_E → (Option q_V → List q_E → Prop) → Prop := fun as Wd K => ∃ (w : Nat) (h : Nat) (sam : Nat → Nat) (blk : Nat → Bool) (lost : Int64) (ogr : Nat → Nat) (came : Nat → Int32) (sums : Nat → Int64) (sqs : Nat → Int64) (mrk : Nat → Bool) (que : Nat → Nat) (qd : Nat) (xl : Nat) (yt : Nat) (xr : Nat) (yb : Nat), (q_g w h) ∧ (xl ≤ w) ∧ (yt ≤ h) ∧ (xr ≤ w) ∧ (yb ≤ h) ∧ as = [.inr (.inr (some 0)), .inr (.inr (some 5)), .inl (nI xl), .inl (nI yt), .inl (nI xr), .inl (nI yb)] ∧ Wd = (xw w h sam blk lost ogr came sums sqs mrk que qd) ∧ (K (some (.inr (.inl (sums (yb * (w + 1) + xr) - sums (yb * (w + 1) + xl) - (sums (yt * (w + 1) + xr) - sums (yt * (w + 1) + xl)))))) (xw w h sam blk lost ogr came sums sqs mrk que qd))
set_option maxHeartbeats 4000000 in
set_option maxRecDepth 20000 in
theorem ct_X0_sumBetween_5 : q_Ct yX0_sumBetween cX0_sumBetween 10 (some .long) 1 22 sp_X0_sumBetween_5 := by
  refine q_met (by decide) ?_
  intro x as Wd K hs ok fn
  obtain ⟨w, h, sam, blk, lost, ogr, came, sums, sqs, mrk, que, qd, xl, yt, xr, yb, g, h1, h2, h3, h4, rfl, rfl, hk⟩ := hs
  show q_W x 0 [some (.inr (.inr (some 0))), some (.inr (.inr (some 5))), some (.inl (nI xl)), some (.inl (nI yt)), some (.inl (nI xr)), some (.inl (nI yb)), none, none, none, none] [] (xw w h sam blk lost ogr came sums sqs mrk que qd)
  refine q_aload_n ok rfl dX0_sumBetween_0 ?_
  refine q_aload_n ok rfl dX0_sumBetween_1 ?_
  refine q_iload ok rfl dX0_sumBetween_2 ?_
  refine q_iload ok rfl dX0_sumBetween_4 ?_
  refine kX0_cornerOf (by decide) (Nat.le_of_ble_eq_true rfl) ok dX0_sumBetween_6 ?_
  refine xl_sums g (pc_lt h3 h4) ok dX0_sumBetween_9 ?_
  refine q_aload_n ok rfl dX0_sumBetween_10 ?_
  refine q_aload_n ok rfl dX0_sumBetween_11 ?_
  refine q_iload_n ok rfl dX0_sumBetween_12 ?_
  refine q_iload ok rfl dX0_sumBetween_13 ?_
  refine kX0_cornerOf (by decide) (Nat.le_of_ble_eq_true rfl) ok dX0_sumBetween_15 ?_
  refine xl_sums g (pc_lt h1 h4) ok dX0_sumBetween_18 ?_
  refine q_lsub ok dX0_sumBetween_19 ?_
  refine q_lstore_6 ok rfl dX0_sumBetween_20 ?_
  refine q_aload_n ok rfl dX0_sumBetween_22 ?_
  refine q_aload_n ok rfl dX0_sumBetween_23 ?_
  refine q_iload ok rfl dX0_sumBetween_24 ?_
  refine q_iload_n ok rfl dX0_sumBetween_26 ?_
  refine kX0_cornerOf (by decide) (Nat.le_of_ble_eq_true rfl) ok dX0_sumBetween_27 ?_
  refine xl_sums g (pc_lt h3 h2) ok dX0_sumBetween_30 ?_
  refine q_aload_n ok rfl dX0_sumBetween_31 ?_
  refine q_aload_n ok rfl dX0_sumBetween_32 ?_
  refine q_iload_n ok rfl dX0_sumBetween_33 ?_
  refine q_iload_n ok rfl dX0_sumBetween_34 ?_
  refine kX0_cornerOf (by decide) (Nat.le_of_ble_eq_true rfl) ok dX0_sumBetween_35 ?_
  refine xl_sums g (pc_lt h1 h2) ok dX0_sumBetween_38 ?_
  refine q_lsub ok dX0_sumBetween_39 ?_
  refine q_lstore_8 ok rfl dX0_sumBetween_40 ?_
  refine q_lload ok rfl dX0_sumBetween_42 ?_
  refine q_lload ok rfl dX0_sumBetween_44 ?_
  refine q_lsub ok dX0_sumBetween_46 ?_
  exact q_lret ok fn dX0_sumBetween_47 hk
theorem kX0_sumBetween_5 {x : q_X} {cc : ByteArray} {fr lo pc : Nat} {lv : List (Option q_V)} {st : List q_V} {w : Nat} {h : Nat} {sam : Nat → Nat} {blk : Nat → Bool} {lost : Int64} {ogr : Nat → Nat} {came : Nat → Int32} {sums : Nat → Int64} {sqs : Nat → Int64} {mrk : Nat → Bool} {que : Nat → Nat} {qd : Nat} {xl : Nat} {yt : Nat} {xr : Nat} {yb : Nat} (g : q_g w h) (h1 : xl ≤ w) (h2 : yt ≤ h) (h3 : xr ≤ w) (h4 : yb ≤ h) (hR : 1 + 1 ≤ fr ∧ 8 + (10 + 11) + 22 ≤ lo) (hst : (st.map (fun v => if q_nol (some v) then 1 else 2)).sum ≤ 8) (ok : q_ok x cc RX0 fr lo) (hd : decode cc pc = .ok (.invokevirtual 153, 3)) (kk : q_W x (pc + 3) lv ((.inr (.inl (sums (yb * (w + 1) + xr) - sums (yb * (w + 1) + xl) - (sums (yt * (w + 1) + xr) - sums (yt * (w + 1) + xl))))) :: st) (xw w h sam blk lost ogr came sums sqs mrk que qd)) : q_W x pc lv (.inl (nI yb) :: .inl (nI xr) :: .inl (nI yt) :: .inl (nI xl) :: .inr (.inr (some 5)) :: .inr (.inr (some 0)) :: st) (xw w h sam blk lost ogr came sums sqs mrk que qd) :=
  q_callV [.inr (.inr (some 5)), .inl (nI xl), .inl (nI yt), .inl (nI xr), .inl (nI yb)] ct_X0_sumBetween_5 lkX0_X0_sumBetween dc_X0_sumBetween rfl ok rfl hR hst (Nat.le_of_ble_eq_true rfl) hd ⟨w, h, sam, blk, lost, ogr, came, sums, sqs, mrk, que, qd, xl, yt, xr, yb, g, h1, h2, h3, h4, rfl, rfl, kk⟩
def sp_X0_sumBetween_6 : List q_V → List q_E → (Option q_V → List q_E → Prop) → Prop := fun as Wd K => ∃ (w : Nat) (h : Nat) (sam : Nat → Nat) (blk : Nat → Bool) (lost : Int64) (ogr : Nat → Nat) (came : Nat → Int32) (sums : Nat → Int64) (sqs : Nat → Int64) (mrk : Nat → Bool) (que : Nat → Nat) (qd : Nat) (xl : Nat) (yt : Nat) (xr : Nat) (yb : Nat), (q_g w h) ∧ (xl ≤ w) ∧ (yt ≤ h) ∧ (xr ≤ w) ∧ (yb ≤ h) ∧ as = [.inr (.inr (some 0)), .inr (.inr (some 6)), .inl (nI xl), .inl (nI yt), .inl (nI xr), .inl (nI yb)] ∧ Wd = (xw w h sam blk lost ogr came sums sqs mrk que qd) ∧ (K (some (.inr (.inl (sqs (yb * (w + 1) + xr) - sqs (yb * (w + 1) + xl) - (sqs (yt * (w + 1) + xr) - sqs (yt * (w + 1) + xl)))))) (xw w h sam blk lost ogr came sums sqs mrk que qd))
set_option maxHeartbeats 4000000 in
set_option maxRecDepth 20000 in
theorem ct_X0_sumBetween_6 : q_Ct yX0_sumBetween cX0_sumBetween 10 (some .long) 1 22 sp_X0_sumBetween_6 := by
  refine q_met (by decide) ?_
  intro x as Wd K hs ok fn
  obtain ⟨w, h, sam, blk, lost, ogr, came, sums, sqs, mrk, que, qd, xl, yt, xr, yb, g, h1, h2, h3, h4, rfl, rfl, hk⟩ := hs
  show q_W x 0 [some (.inr (.inr (some 0))), some (.inr (.inr (some 6))), some (.inl (nI xl)), some (.inl (nI yt)), some (.inl (nI xr)), some (.inl (nI yb)), none, none, none, none] [] (xw w h sam blk lost ogr came sums sqs mrk que qd)
  refine q_aload_n ok rfl dX0_sumBetween_0 ?_
  refine q_aload_n ok rfl dX0_sumBetween_1 ?_
  refine q_iload ok rfl dX0_sumBetween_2 ?_
  refine q_iload ok rfl dX0_sumBetween_4 ?_
  refine kX0_cornerOf (by decide) (Nat.le_of_ble_eq_true rfl) ok dX0_sumBetween_6 ?_
  refine xl_sqs g (pc_lt h3 h4) ok dX0_sumBetween_9 ?_
  refine q_aload_n ok rfl dX0_sumBetween_10 ?_
  refine q_aload_n ok rfl dX0_sumBetween_11 ?_
  refine q_iload_n ok rfl dX0_sumBetween_12 ?_
  refine q_iload ok rfl dX0_sumBetween_13 ?_
  refine kX0_cornerOf (by decide) (Nat.le_of_ble_eq_true rfl) ok dX0_sumBetween_15 ?_
  refine xl_sqs g (pc_lt h1 h4) ok dX0_sumBetween_18 ?_
  refine q_lsub ok dX0_sumBetween_19 ?_
  refine q_lstore_6 ok rfl dX0_sumBetween_20 ?_
  refine q_aload_n ok rfl dX0_sumBetween_22 ?_
  refine q_aload_n ok rfl dX0_sumBetween_23 ?_
  refine q_iload ok rfl dX0_sumBetween_24 ?_
  refine q_iload_n ok rfl dX0_sumBetween_26 ?_
  refine kX0_cornerOf (by decide) (Nat.le_of_ble_eq_true rfl) ok dX0_sumBetween_27 ?_
  refine xl_sqs g (pc_lt h3 h2) ok dX0_sumBetween_30 ?_
  refine q_aload_n ok rfl dX0_sumBetween_31 ?_
  refine q_aload_n ok rfl dX0_sumBetween_32 ?_
  refine q_iload_n ok rfl dX0_sumBetween_33 ?_
  refine q_iload_n ok rfl dX0_sumBetween_34 ?_
  refine kX0_cornerOf (by decide) (Nat.le_of_ble_eq_true rfl) ok dX0_sumBetween_35 ?_
  refine xl_sqs g (pc_lt h1 h2) ok dX0_sumBetween_38 ?_
  refine q_lsub ok dX0_sumBetween_39 ?_
  refine q_lstore_8 ok rfl dX0_sumBetween_40 ?_
  refine q_lload ok rfl dX0_sumBetween_42 ?_
  refine q_lload ok rfl dX0_sumBetween_44 ?_
  refine q_lsub ok dX0_sumBetween_46 ?_
  exact q_lret ok fn dX0_sumBetween_47 hk
theorem kX0_sumBetween_6 {x : q_X} {cc : ByteArray} {fr lo pc : Nat} {lv : List (Option q_V)} {st : List q_V} {w : Nat} {h : Nat} {sam : Nat → Nat} {blk : Nat → Bool} {lost : Int64} {ogr : Nat → Nat} {came : Nat → Int32} {sums : Nat → Int64} {sqs : Nat → Int64} {mrk : Nat → Bool} {que : Nat → Nat} {qd : Nat} {xl : Nat} {yt : Nat} {xr : Nat} {yb : Nat} (g : q_g w h) (h1 : xl ≤ w) (h2 : yt ≤ h) (h3 : xr ≤ w) (h4 : yb ≤ h) (hR : 1 + 1 ≤ fr ∧ 8 + (10 + 11) + 22 ≤ lo) (hst : (st.map (fun v => if q_nol (some v) then 1 else 2)).sum ≤ 8) (ok : q_ok x cc RX0 fr lo) (hd : decode cc pc = .ok (.invokevirtual 153, 3)) (kk : q_W x (pc + 3) lv ((.inr (.inl (sqs (yb * (w + 1) + xr) - sqs (yb * (w + 1) + xl) - (sqs (yt * (w + 1) + xr) - sqs (yt * (w + 1) + xl))))) :: st) (xw w h sam blk lost ogr came sums sqs mrk que qd)) : q_W x pc lv (.inl (nI yb) :: .inl (nI xr) :: .inl (nI yt) :: .inl (nI xl) :: .inr (.inr (some 6)) :: .inr (.inr (some 0)) :: st) (xw w h sam blk lost ogr came sums sqs mrk que qd) :=
  q_callV [.inr (.inr (some 6)), .inl (nI xl), .inl (nI yt), .inl (nI xr), .inl (nI yb)] ct_X0_sumBetween_6 lkX0_X0_sumBetween dc_X0_sumBetween rfl ok rfl hR hst (Nat.le_of_ble_eq_true rfl) hd ⟨w, h, sam, blk, lost, ogr, came, sums, sqs, mrk, que, qd, xl, yt, xr, yb, g, h1, h2, h3, h4, rfl, rfl, kk⟩
end
