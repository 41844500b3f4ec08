section
-- ===== PART A: goes FIRST, ahead of the names: the tables' words, and 'selects' of the private methods out of them =====
/-- a private method of a class that the tables say can be made, by its rows of tables_1 -/
def lw_okq (q : MethodName × Nat) : Prop := (q.1.cls ≠ "java/lang/invoke/MethodHandle" ∧ q.1.cls ≠ "java/lang/invoke/VarHandle") ∧ Cond.instantiable q.1.cls q.2 ∈ tables_1 ∧ Cond.privateMethod q.1 ∈ tables_1 ∧ Cond.instanceMethod q.1 ∈ tables_1
theorem lw_p0 : lw_okq (⟨"LocalBounds", "bestBound", "()I"⟩, 13) := ⟨⟨by decide +kernel, by decide +kernel⟩, List.mem_of_getElem? (i := 11) (by decide +kernel), List.mem_of_getElem? (i := 82) (by decide +kernel), List.mem_of_getElem? (i := 83) (by decide +kernel)⟩
theorem lw_p1 : lw_okq (⟨"LocalBounds", "fillOfGrey", "()V"⟩, 13) := ⟨⟨by decide +kernel, by decide +kernel⟩, List.mem_of_getElem? (i := 11) (by decide +kernel), List.mem_of_getElem? (i := 86) (by decide +kernel), List.mem_of_getElem? (i := 87) (by decide +kernel)⟩
theorem lw_p2 : lw_okq (⟨"LocalBounds", "sumOfSamples", "()J"⟩, 13) := ⟨⟨by decide +kernel, by decide +kernel⟩, List.mem_of_getElem? (i := 11) (by decide +kernel), List.mem_of_getElem? (i := 93) (by decide +kernel), List.mem_of_getElem? (i := 94) (by decide +kernel)⟩
theorem lw_p3 : lw_okq (⟨"LocalBounds", "placeOf", "(II)I"⟩, 13) := ⟨⟨by decide +kernel, by decide +kernel⟩, List.mem_of_getElem? (i := 11) (by decide +kernel), List.mem_of_getElem? (i := 105) (by decide +kernel), List.mem_of_getElem? (i := 106) (by decide +kernel)⟩
theorem lw_p4 : lw_okq (⟨"LocalBounds", "isEdge", "(II)Z"⟩, 13) := ⟨⟨by decide +kernel, by decide +kernel⟩, List.mem_of_getElem? (i := 11) (by decide +kernel), List.mem_of_getElem? (i := 109) (by decide +kernel), List.mem_of_getElem? (i := 110) (by decide +kernel)⟩
theorem lw_p5 : lw_okq (⟨"LocalBounds", "isBlack", "(II)Z"⟩, 13) := ⟨⟨by decide +kernel, by decide +kernel⟩, List.mem_of_getElem? (i := 11) (by decide +kernel), List.mem_of_getElem? (i := 113) (by decide +kernel), List.mem_of_getElem? (i := 114) (by decide +kernel)⟩
theorem lw_p6 : lw_okq (⟨"LocalBounds", "isInside", "(II)Z"⟩, 13) := ⟨⟨by decide +kernel, by decide +kernel⟩, List.mem_of_getElem? (i := 11) (by decide +kernel), List.mem_of_getElem? (i := 117) (by decide +kernel), List.mem_of_getElem? (i := 118) (by decide +kernel)⟩
theorem lw_p7 : lw_okq (⟨"LocalBounds", "countBlack", "()I"⟩, 13) := ⟨⟨by decide +kernel, by decide +kernel⟩, List.mem_of_getElem? (i := 11) (by decide +kernel), List.mem_of_getElem? (i := 121) (by decide +kernel), List.mem_of_getElem? (i := 122) (by decide +kernel)⟩
theorem lw_p8 : lw_okq (⟨"LocalBounds", "countBlackParts", "()I"⟩, 13) := ⟨⟨by decide +kernel, by decide +kernel⟩, List.mem_of_getElem? (i := 11) (by decide +kernel), List.mem_of_getElem? (i := 133) (by decide +kernel), List.mem_of_getElem? (i := 134) (by decide +kernel)⟩
theorem lw_p9 : lw_okq (⟨"LocalBounds", "unmarkAll", "()V"⟩, 13) := ⟨⟨by decide +kernel, by decide +kernel⟩, List.mem_of_getElem? (i := 11) (by decide +kernel), List.mem_of_getElem? (i := 137) (by decide +kernel), List.mem_of_getElem? (i := 138) (by decide +kernel)⟩
theorem lw_p10 : lw_okq (⟨"LocalBounds", "gatherPart", "(IZ)V"⟩, 13) := ⟨⟨by decide +kernel, by decide +kernel⟩, List.mem_of_getElem? (i := 11) (by decide +kernel), List.mem_of_getElem? (i := 141) (by decide +kernel), List.mem_of_getElem? (i := 142) (by decide +kernel)⟩
theorem lw_p11 : lw_okq (⟨"LocalBounds", "enqueue", "(I)V"⟩, 13) := ⟨⟨by decide +kernel, by decide +kernel⟩, List.mem_of_getElem? (i := 11) (by decide +kernel), List.mem_of_getElem? (i := 145) (by decide +kernel), List.mem_of_getElem? (i := 146) (by decide +kernel)⟩
theorem lw_p12 : lw_okq (⟨"LocalBounds", "columnOf", "(I)I"⟩, 13) := ⟨⟨by decide +kernel, by decide +kernel⟩, List.mem_of_getElem? (i := 11) (by decide +kernel), List.mem_of_getElem? (i := 149) (by decide +kernel), List.mem_of_getElem? (i := 150) (by decide +kernel)⟩
theorem lw_p13 : lw_okq (⟨"LocalBounds", "rowOf", "(I)I"⟩, 13) := ⟨⟨by decide +kernel, by decide +kernel⟩, List.mem_of_getElem? (i := 11) (by decide +kernel), List.mem_of_getElem? (i := 153) (by decide +kernel), List.mem_of_getElem? (i := 154) (by decide +kernel)⟩
theorem lw_p14 : lw_okq (⟨"LocalBounds", "gather", "(IIZ)V"⟩, 13) := ⟨⟨by decide +kernel, by decide +kernel⟩, List.mem_of_getElem? (i := 11) (by decide +kernel), List.mem_of_getElem? (i := 157) (by decide +kernel), List.mem_of_getElem? (i := 158) (by decide +kernel)⟩
theorem lw_p15 : lw_okq (⟨"LocalBounds", "countGreys", "()I"⟩, 13) := ⟨⟨by decide +kernel, by decide +kernel⟩, List.mem_of_getElem? (i := 11) (by decide +kernel), List.mem_of_getElem? (i := 161) (by decide +kernel), List.mem_of_getElem? (i := 162) (by decide +kernel)⟩
def lw_privs_1 : List (MethodName × Nat) := [(⟨"LocalBounds", "bestBound", "()I"⟩, 13), (⟨"LocalBounds", "fillOfGrey", "()V"⟩, 13), (⟨"LocalBounds", "sumOfSamples", "()J"⟩, 13), (⟨"LocalBounds", "placeOf", "(II)I"⟩, 13), (⟨"LocalBounds", "isEdge", "(II)Z"⟩, 13), (⟨"LocalBounds", "isBlack", "(II)Z"⟩, 13), (⟨"LocalBounds", "isInside", "(II)Z"⟩, 13), (⟨"LocalBounds", "countBlack", "()I"⟩, 13), (⟨"LocalBounds", "countBlackParts", "()I"⟩, 13), (⟨"LocalBounds", "unmarkAll", "()V"⟩, 13), (⟨"LocalBounds", "gatherPart", "(IZ)V"⟩, 13), (⟨"LocalBounds", "enqueue", "(I)V"⟩, 13), (⟨"LocalBounds", "columnOf", "(I)I"⟩, 13), (⟨"LocalBounds", "rowOf", "(I)I"⟩, 13), (⟨"LocalBounds", "gather", "(IIZ)V"⟩, 13), (⟨"LocalBounds", "countGreys", "()I"⟩, 13)]
theorem lw_r1 : ∀ q ∈ lw_privs_1, lw_okq q := List.forall_mem_cons.mpr ⟨lw_p0, List.forall_mem_cons.mpr ⟨lw_p1, List.forall_mem_cons.mpr ⟨lw_p2, List.forall_mem_cons.mpr ⟨lw_p3, List.forall_mem_cons.mpr ⟨lw_p4, List.forall_mem_cons.mpr ⟨lw_p5, List.forall_mem_cons.mpr ⟨lw_p6, List.forall_mem_cons.mpr ⟨lw_p7, List.forall_mem_cons.mpr ⟨lw_p8, List.forall_mem_cons.mpr ⟨lw_p9, List.forall_mem_cons.mpr ⟨lw_p10, List.forall_mem_cons.mpr ⟨lw_p11, List.forall_mem_cons.mpr ⟨lw_p12, List.forall_mem_cons.mpr ⟨lw_p13, List.forall_mem_cons.mpr ⟨lw_p14, List.forall_mem_cons.mpr ⟨lw_p15, fun _ h => absurd h List.not_mem_nil⟩⟩⟩⟩⟩⟩⟩⟩⟩⟩⟩⟩⟩⟩⟩⟩
theorem lw_p16 : lw_okq (⟨"java/lang/Throwable", "fillInStackTrace", "(I)Ljava/lang/Throwable;"⟩, 6) := ⟨⟨by decide +kernel, by decide +kernel⟩, List.mem_of_getElem? (i := 218) (by decide +kernel), List.mem_of_getElem? (i := 216) (by decide +kernel), List.mem_of_getElem? (i := 217) (by decide +kernel)⟩
theorem lw_p17 : lw_okq (⟨"LocalBounds", "fillSums", "()V"⟩, 13) := ⟨⟨by decide +kernel, by decide +kernel⟩, List.mem_of_getElem? (i := 11) (by decide +kernel), List.mem_of_getElem? (i := 273) (by decide +kernel), List.mem_of_getElem? (i := 274) (by decide +kernel)⟩
theorem lw_p18 : lw_okq (⟨"LocalBounds", "cornerOf", "(II)I"⟩, 13) := ⟨⟨by decide +kernel, by decide +kernel⟩, List.mem_of_getElem? (i := 11) (by decide +kernel), List.mem_of_getElem? (i := 277) (by decide +kernel), List.mem_of_getElem? (i := 278) (by decide +kernel)⟩
theorem lw_p19 : lw_okq (⟨"LocalBounds", "isDarkInWindow", "(IIII)Z"⟩, 13) := ⟨⟨by decide +kernel, by decide +kernel⟩, List.mem_of_getElem? (i := 11) (by decide +kernel), List.mem_of_getElem? (i := 281) (by decide +kernel), List.mem_of_getElem? (i := 282) (by decide +kernel)⟩
theorem lw_p20 : lw_okq (⟨"LocalBounds", "sumBetween", "([JIIII)J"⟩, 13) := ⟨⟨by decide +kernel, by decide +kernel⟩, List.mem_of_getElem? (i := 11) (by decide +kernel), List.mem_of_getElem? (i := 285) (by decide +kernel), List.mem_of_getElem? (i := 286) (by decide +kernel)⟩
theorem lw_p21 : lw_okq (⟨"LocalBounds", "spreadRow", "(II)V"⟩, 13) := ⟨⟨by decide +kernel, by decide +kernel⟩, List.mem_of_getElem? (i := 11) (by decide +kernel), List.mem_of_getElem? (i := 298) (by decide +kernel), List.mem_of_getElem? (i := 299) (by decide +kernel)⟩
theorem lw_p22 : lw_okq (⟨"LocalBounds", "spreadSample", "(IIII)V"⟩, 13) := ⟨⟨by decide +kernel, by decide +kernel⟩, List.mem_of_getElem? (i := 11) (by decide +kernel), List.mem_of_getElem? (i := 302) (by decide +kernel), List.mem_of_getElem? (i := 303) (by decide +kernel)⟩
theorem lw_p23 : lw_okq (⟨"LocalBounds", "passTo", "(III)V"⟩, 13) := ⟨⟨by decide +kernel, by decide +kernel⟩, List.mem_of_getElem? (i := 11) (by decide +kernel), List.mem_of_getElem? (i := 306) (by decide +kernel), List.mem_of_getElem? (i := 307) (by decide +kernel)⟩
theorem lw_p24 : lw_okq (⟨"LocalBounds", "blackenRound", "(III)V"⟩, 13) := ⟨⟨by decide +kernel, by decide +kernel⟩, List.mem_of_getElem? (i := 11) (by decide +kernel), List.mem_of_getElem? (i := 335) (by decide +kernel), List.mem_of_getElem? (i := 336) (by decide +kernel)⟩
theorem lw_p25 : lw_okq (⟨"LocalBounds", "blackenUpTo", "(II)V"⟩, 13) := ⟨⟨by decide +kernel, by decide +kernel⟩, List.mem_of_getElem? (i := 11) (by decide +kernel), List.mem_of_getElem? (i := 339) (by decide +kernel), List.mem_of_getElem? (i := 340) (by decide +kernel)⟩
theorem lw_p26 : lw_okq (⟨"LocalBounds", "turnSpecks", "(ZI)I"⟩, 13) := ⟨⟨by decide +kernel, by decide +kernel⟩, List.mem_of_getElem? (i := 11) (by decide +kernel), List.mem_of_getElem? (i := 351) (by decide +kernel), List.mem_of_getElem? (i := 352) (by decide +kernel)⟩
theorem lw_p27 : lw_okq (⟨"LocalBounds", "isSpeck", "(ZI)Z"⟩, 13) := ⟨⟨by decide +kernel, by decide +kernel⟩, List.mem_of_getElem? (i := 11) (by decide +kernel), List.mem_of_getElem? (i := 355) (by decide +kernel), List.mem_of_getElem? (i := 356) (by decide +kernel)⟩
theorem lw_p28 : lw_okq (⟨"LocalBounds", "queuedComeToEdge", "()Z"⟩, 13) := ⟨⟨by decide +kernel, by decide +kernel⟩, List.mem_of_getElem? (i := 11) (by decide +kernel), List.mem_of_getElem? (i := 359) (by decide +kernel), List.mem_of_getElem? (i := 360) (by decide +kernel)⟩
theorem lw_p29 : lw_okq (⟨"LocalBounds", "turnQueued", "(Z)I"⟩, 13) := ⟨⟨by decide +kernel, by decide +kernel⟩, List.mem_of_getElem? (i := 11) (by decide +kernel), List.mem_of_getElem? (i := 363) (by decide +kernel), List.mem_of_getElem? (i := 364) (by decide +kernel)⟩
theorem lw_p30 : lw_okq (⟨"LocalBoundsModel", "isIn", "(II)Z"⟩, 9) := ⟨⟨by decide +kernel, by decide +kernel⟩, List.mem_of_getElem? (i := 393) (by decide +kernel), List.mem_of_getElem? (i := 435) (by decide +kernel), List.mem_of_getElem? (i := 436) (by decide +kernel)⟩
theorem lw_p31 : lw_okq (⟨"LocalBoundsModel", "all", "()I"⟩, 9) := ⟨⟨by decide +kernel, by decide +kernel⟩, List.mem_of_getElem? (i := 393) (by decide +kernel), List.mem_of_getElem? (i := 443) (by decide +kernel), List.mem_of_getElem? (i := 444) (by decide +kernel)⟩
def lw_privs_2 : List (MethodName × Nat) := [(⟨"java/lang/Throwable", "fillInStackTrace", "(I)Ljava/lang/Throwable;"⟩, 6), (⟨"LocalBounds", "fillSums", "()V"⟩, 13), (⟨"LocalBounds", "cornerOf", "(II)I"⟩, 13), (⟨"LocalBounds", "isDarkInWindow", "(IIII)Z"⟩, 13), (⟨"LocalBounds", "sumBetween", "([JIIII)J"⟩, 13), (⟨"LocalBounds", "spreadRow", "(II)V"⟩, 13), (⟨"LocalBounds", "spreadSample", "(IIII)V"⟩, 13), (⟨"LocalBounds", "passTo", "(III)V"⟩, 13), (⟨"LocalBounds", "blackenRound", "(III)V"⟩, 13), (⟨"LocalBounds", "blackenUpTo", "(II)V"⟩, 13), (⟨"LocalBounds", "turnSpecks", "(ZI)I"⟩, 13), (⟨"LocalBounds", "isSpeck", "(ZI)Z"⟩, 13), (⟨"LocalBounds", "queuedComeToEdge", "()Z"⟩, 13), (⟨"LocalBounds", "turnQueued", "(Z)I"⟩, 13), (⟨"LocalBoundsModel", "isIn", "(II)Z"⟩, 9), (⟨"LocalBoundsModel", "all", "()I"⟩, 9)]
theorem lw_r2 : ∀ q ∈ lw_privs_2, lw_okq q := List.forall_mem_cons.mpr ⟨lw_p16, List.forall_mem_cons.mpr ⟨lw_p17, List.forall_mem_cons.mpr ⟨lw_p18, List.forall_mem_cons.mpr ⟨lw_p19, List.forall_mem_cons.mpr ⟨lw_p20, List.forall_mem_cons.mpr ⟨lw_p21, List.forall_mem_cons.mpr ⟨lw_p22, List.forall_mem_cons.mpr ⟨lw_p23, List.forall_mem_cons.mpr ⟨lw_p24, List.forall_mem_cons.mpr ⟨lw_p25, List.forall_mem_cons.mpr ⟨lw_p26, List.forall_mem_cons.mpr ⟨lw_p27, List.forall_mem_cons.mpr ⟨lw_p28, List.forall_mem_cons.mpr ⟨lw_p29, List.forall_mem_cons.mpr ⟨lw_p30, List.forall_mem_cons.mpr ⟨lw_p31, fun _ h => absurd h List.not_mem_nil⟩⟩⟩⟩⟩⟩⟩⟩⟩⟩⟩⟩⟩⟩⟩⟩
theorem lw_p32 : lw_okq (⟨"LocalBoundsModel", "isDark", "(IIII)Z"⟩, 9) := ⟨⟨by decide +kernel, by decide +kernel⟩, List.mem_of_getElem? (i := 393) (by decide +kernel), List.mem_of_getElem? (i := 455) (by decide +kernel), List.mem_of_getElem? (i := 456) (by decide +kernel)⟩
theorem lw_p33 : lw_okq (⟨"LocalBoundsModel", "blacks", "()I"⟩, 9) := ⟨⟨by decide +kernel, by decide +kernel⟩, List.mem_of_getElem? (i := 393) (by decide +kernel), List.mem_of_getElem? (i := 461) (by decide +kernel), List.mem_of_getElem? (i := 462) (by decide +kernel)⟩
theorem lw_p34 : lw_okq (⟨"LocalBoundsModel", "pass", "(III)V"⟩, 9) := ⟨⟨by decide +kernel, by decide +kernel⟩, List.mem_of_getElem? (i := 393) (by decide +kernel), List.mem_of_getElem? (i := 469) (by decide +kernel), List.mem_of_getElem? (i := 470) (by decide +kernel)⟩
theorem lw_p35 : lw_okq (⟨"LocalBoundsModel", "touchesBlack", "(II)Z"⟩, 9) := ⟨⟨by decide +kernel, by decide +kernel⟩, List.mem_of_getElem? (i := 393) (by decide +kernel), List.mem_of_getElem? (i := 495) (by decide +kernel), List.mem_of_getElem? (i := 496) (by decide +kernel)⟩
theorem lw_p36 : lw_okq (⟨"LocalBoundsModel", "turnSpecks", "(ZI)I"⟩, 9) := ⟨⟨by decide +kernel, by decide +kernel⟩, List.mem_of_getElem? (i := 393) (by decide +kernel), List.mem_of_getElem? (i := 503) (by decide +kernel), List.mem_of_getElem? (i := 504) (by decide +kernel)⟩
theorem lw_p37 : lw_okq (⟨"LocalBoundsModel", "findParts", "(Z)V"⟩, 9) := ⟨⟨by decide +kernel, by decide +kernel⟩, List.mem_of_getElem? (i := 393) (by decide +kernel), List.mem_of_getElem? (i := 507) (by decide +kernel), List.mem_of_getElem? (i := 508) (by decide +kernel)⟩
theorem lw_p38 : lw_okq (⟨"LocalBoundsModel", "lesser", "(IIIZ)I"⟩, 9) := ⟨⟨by decide +kernel, by decide +kernel⟩, List.mem_of_getElem? (i := 393) (by decide +kernel), List.mem_of_getElem? (i := 511) (by decide +kernel), List.mem_of_getElem? (i := 512) (by decide +kernel)⟩
theorem lw_p39 : lw_okq (⟨"LocalBoundsModel", "isBlackAt", "(II)Z"⟩, 9) := ⟨⟨by decide +kernel, by decide +kernel⟩, List.mem_of_getElem? (i := 393) (by decide +kernel), List.mem_of_getElem? (i := 519) (by decide +kernel), List.mem_of_getElem? (i := 520) (by decide +kernel)⟩
theorem lw_p40 : lw_okq (⟨"LocalBoundsModel", "parts", "()I"⟩, 9) := ⟨⟨by decide +kernel, by decide +kernel⟩, List.mem_of_getElem? (i := 393) (by decide +kernel), List.mem_of_getElem? (i := 539) (by decide +kernel), List.mem_of_getElem? (i := 540) (by decide +kernel)⟩
theorem lw_p41 : lw_okq (⟨"LocalBoundsModel", "different", "()I"⟩, 9) := ⟨⟨by decide +kernel, by decide +kernel⟩, List.mem_of_getElem? (i := 393) (by decide +kernel), List.mem_of_getElem? (i := 543) (by decide +kernel), List.mem_of_getElem? (i := 544) (by decide +kernel)⟩
def lw_privs_3 : List (MethodName × Nat) := [(⟨"LocalBoundsModel", "isDark", "(IIII)Z"⟩, 9), (⟨"LocalBoundsModel", "blacks", "()I"⟩, 9), (⟨"LocalBoundsModel", "pass", "(III)V"⟩, 9), (⟨"LocalBoundsModel", "touchesBlack", "(II)Z"⟩, 9), (⟨"LocalBoundsModel", "turnSpecks", "(ZI)I"⟩, 9), (⟨"LocalBoundsModel", "findParts", "(Z)V"⟩, 9), (⟨"LocalBoundsModel", "lesser", "(IIIZ)I"⟩, 9), (⟨"LocalBoundsModel", "isBlackAt", "(II)Z"⟩, 9), (⟨"LocalBoundsModel", "parts", "()I"⟩, 9), (⟨"LocalBoundsModel", "different", "()I"⟩, 9)]
theorem lw_r3 : ∀ q ∈ lw_privs_3, lw_okq q := List.forall_mem_cons.mpr ⟨lw_p32, List.forall_mem_cons.mpr ⟨lw_p33, List.forall_mem_cons.mpr ⟨lw_p34, List.forall_mem_cons.mpr ⟨lw_p35, List.forall_mem_cons.mpr ⟨lw_p36, List.forall_mem_cons.mpr ⟨lw_p37, List.forall_mem_cons.mpr ⟨lw_p38, List.forall_mem_cons.mpr ⟨lw_p39, List.forall_mem_cons.mpr ⟨lw_p40, List.forall_mem_cons.mpr ⟨lw_p41, fun _ h => absurd h List.not_mem_nil⟩⟩⟩⟩⟩⟩⟩⟩⟩⟩
def lw_privs : List (MethodName × Nat) := lw_privs_1 ++ (lw_privs_2 ++ (lw_privs_3))
def lw_tbl : List Cond := k2_sels lw_privs ++ tables_1
theorem lw_privs_ok : ∀ q ∈ lw_privs, lw_okq q := by
  show ∀ q ∈ lw_privs_1 ++ (lw_privs_2 ++ (lw_privs_3)), lw_okq q
  exact List.forall_mem_append.mpr ⟨lw_r1, List.forall_mem_append.mpr ⟨lw_r2, lw_r3⟩⟩
end
section
/-! ===== BEGIN words of one list among another's, by their places ===== -/
theorem goodIn_r {big : List Cond} (ws : List Cond) (ps : List Nat) (hp : ws = ps.filterMap (fun i => big[i]?)) (h : ws.all goodWord = true) : GoodIn big ws := by
  intro w hw
  have h1 := List.all_eq_true.mp h w hw
  rw [hp] at hw
  obtain ⟨i, -, hi⟩ := List.mem_filterMap.mp hw
  have hm : w ∈ big := by first | exact List.mem_of_getElem? hi | exact List.getElem?_mem hi
  exact ⟨hm, good_of_word h1⟩
theorem goodIn_app {big a b : List Cond} (ha : GoodIn big a) (hb : GoodIn big b) : GoodIn big (a ++ b) := fun w h => (List.mem_append.mp h).elim (ha w) (hb w)
theorem goodIn_ca {big a b : List Cond} {c : Cond} (ha : GoodIn big (c :: a)) (hb : GoodIn big b) : GoodIn big (c :: (a ++ b)) := fun w h => (List.mem_cons.mp h).elim (fun e => ha w (List.mem_cons.mpr (Or.inl e))) (fun h => (List.mem_append.mp h).elim (fun h => ha w (List.mem_cons.mpr (Or.inr h))) (hb w))
theorem goodIn_sub {big ws : List Cond} (hm : ∀ w ∈ ws, w ∈ big) (h : ws.all goodWord = true) : GoodIn big ws := fun w hw => ⟨hm w hw, good_of_word (List.all_eq_true.mp h w hw)⟩
/-! ===== END ===== -/

/-! ===== BEGIN exceptions that leave a method, and their catching by the caller (launches without stack traces) ===== -/
section VXA
/-! The laws vx_back, vx_callV, vx_callS, vx_callSW, vx_throw0, vx_throwS follow proofs of the library, with one case more: JvmDerived/Free/Laws.lean (Back.of_free), Shelf42/LK1.lean (callV, callS), Shelf/KitTraced.lean (throwNew0V, throwNewS). -/
/-- where a method has thrown q: the class by its name, the cell, what was written, the world -/
def vx_T (XC : String → State → State → Prop) (st : State) (q : Addr) (t : State) (mc ms : Nat) (free : Addr → Prop) : Prop :=
  ∃ (E : String) (ce : Cell) (L : List Loc), XC E st t ∧ t.heap[q]? = some ce ∧ ce.vm = .none ∧ st.vm.findClass E = some ce.cls ∧ st.WarmedH t.vm ∧ st.sameButNew ({ t with vm := st.vm } : State) L mc ms ∧ ∀ z ∈ L, free z.base
def vx_Q (Qc : Array Value → State → Outcome → State → Prop) (XC : String → State → State → Prop) (mc ms : Nat) (free : Addr → Prop) : Array Value → State → Outcome → State → Prop := fun a st o t =>
  (Qc a st o t ∧ ∃ L, FrameEnd st o t L mc ms ∧ ∀ q ∈ L, free q.base) ∨ ∃ q, o = .threw q ∧ vx_T XC st q t mc ms free
/-- a callee that returns or throws -/
def vx_Met (l : Launch) (y : MethodName) (ws : List Cond) (rm : Room) (Pc : Array Value → State → Prop) (Qc : Array Value → State → Outcome → State → Prop) (XC : String → State → State → Prop) (mc ms : Nat) (free : Addr → Prop) : Prop :=
  MetFree l y (headSpec ws rm) Pc (fun _ _ _ _ _ => True) (vx_Q Qc XC mc ms free)
def vx_Post (XC : String → State → State → Prop) (mc ms : Nat) (free : Addr → Prop) : Pt → Array Value → Addr → Pt → Prop := fun A a q B =>
  ∃ (g : JFrame) (mk : MethodId) (t : State) (L : List Loc) (E : String) (ce : Cell), B.U.heap = t.heap ∧ B.U.vm = t.vm ∧ XC E (A.U.calling g mk a) t ∧ t.heap[q]? = some ce ∧ ce.vm = .none ∧ A.U.vm.findClass E = some ce.cls ∧ B.locs = A.locs ++ L ∧ (∀ z ∈ L, free z.base) ∧ B.cells = A.cells + mc ∧ B.slots = A.slots + ms
def vx_Back (l : Launch) (R : Room) (p : Program) (e : Env) (below : List Frame) (s : State) (sargs : Array Value) (y : MethodName) (len W9 : Nat)
    (Pre : Pt → Array Value → Prop) (Post : Pt → Array Value → Option Value → Pt → Prop) (PostX : Pt → Array Value → Addr → Pt → Prop) : Prop :=
  ∀ (m : MethodId) (meth : Method) (c : Code) (A : Pt) (g : JFrame) (ig : Instr) (mk : MethodId) (a : Array Value),
    Stand p l e R s m sargs below meth c A.U A.locs A.cells A.slots → g.method = m → g.locals.size = c.maxLocals → decode c.code g.pc = .ok (ig, len) →
    2 * g.monitorRoom + (g.stack.map fun v => v.category).sum ≤ W9 → A.U.methodNamed? y = some mk → Pre A a →
    (∃ (v : Option Value) (B : Pt), Stand p l e R s m sargs below meth c B.U B.locs B.cells B.slots ∧ Post A a v B ∧
      Steps p.tables e below (doInvoke e (A.U.setTop g) [] mk a).1 (B.U.setTop { g with pc := g.pc + len, stack := v.toList ++ g.stack })) ∨
    (∃ (q : Addr) (B : Pt), Stand p l e R s m sargs below meth c B.U B.locs B.cells B.slots ∧ PostX A a q B ∧
      Steps p.tables e below (doInvoke e (A.U.setTop g) [] mk a).1 ((B.U.setTop g).pushFrame (.throwing q)))
section Payer
variable {l : Launch} {R : Room} {p : Program} {e : Env} {below : List Frame} {s : State} {sargs : Array Value} {y : MethodName} {len W9 : Nat}
theorem vx_back {ws : List Cond} {rm : Room} {Pc : Array Value → State → Prop} {Qc : Array Value → State → Outcome → State → Prop} {XC : String → State → State → Prop} {mc ms : Nat} {free : Addr → Prop} {bytes : ByteArray} {maxL : Nat} {ret : Option FieldType}
    (hM : vx_Met l y ws rm Pc Qc XC mc ms free) (hblind : FrameBlind Pc) (hrc : rm.cells = mc) (hrs : rm.slots = ms)
    (hframes : rm.frames + 1 ≤ R.frames) (hlocals : W9 + (maxL + 11) + rm.locals ≤ R.locals)
    (hws : ∀ w ∈ ws, ∀ a' U, s.WarmedH U.vm → w.before a' U = true) (hcode : Cond.code y bytes maxL ret ∈ ws) (hinit : ∀ a' U, s.WarmedH U.vm → (Cond.initialized y.cls).before a' U = true) :
    vx_Back l R p e below s sargs y len W9 (PreOf R mc ms Pc) (PostOf Qc mc ms free) (vx_Post XC mc ms free) := by
  intro m meth c A g ig mk a X hg hsize hdg hW hn hp
  have h1 : (headSpec ws rm).pre.before a A.U = true := atoms_intro fun w hw => hws w hw _ _ X.warmed
  have h2 : (Cond.code y bytes maxL ret).before a A.U = true := hws _ hcode _ _ X.warmed
  have h3 : (Cond.initialized y.cls).before a A.U = true := hinit _ _ X.warmed
  have h4 : A.cells + (headSpec ws rm).room.cells ≤ R.cells := by rw [show (headSpec ws rm).room.cells = mc from hrc]; exact hp.1
  have h5 : A.slots + (headSpec ws rm).room.slots ≤ R.slots := by rw [show (headSpec ws rm).room.slots = ms from hrs]; exact hp.2.1
  have hPc : Pc a (A.U.calling g mk a) := hblind _ _ _ _ hp.2.2
  obtain ⟨U, Ls, c0, s0⟩ := A
  dsimp only [Pt.U, Pt.locs, Pt.cells, Pt.slots] at h1 h2 h3 h4 h5 X hn hPc ⊢
  obtain ⟨methY, cY, hmY, hcY, -, hlY, -, -, -, -⟩ := Cond.code_spec hn h2
  obtain ⟨kY, hkY, -⟩ := className_of_methodNamed hn
  have hinitY : kY.init = .initialized := Cond.initialized_spec (findClass_of_methodNamed hn) hkY h3
  have h : At U g.method c below := by rw [hg]; exact X.here
  have hlocals9 : W9 + (maxL + 11) + (headSpec ws rm).room.locals ≤ R.locals := hlocals
  have happ : (headSpec ws rm).appliesLoose y e.platform (U.calling g mk a) = true :=
    Spec.appliesLoose_calling (g := g) h hdg hn hkY hinitY
      (X.room_calling (g := g) (R' := (headSpec ws rm).room) hsize hmY hcY hframes (by rw [hlY]; omega) h4 h5) h1
  obtain ⟨mid, hmid⟩ := h.above
  have hfr : (U.setTop g).frames = (.java g :: mid) ++ below := by rw [State.frames_setTop' g h.top, hmid]; rfl
  obtain ⟨o, s₂, hsteps, -, hend, hq⟩ := Steps.callFree hM p X.admits X.cas X.clock (acts := []) hfr happ hPc trivial
  have hq' : vx_Q Qc XC mc ms free a (U.calling g mk a) o s₂ := hq
  rw [State.frames_setTop' g h.top] at hend
  obtain ⟨g₀, hg0⟩ := Option.isSome_iff_exists.mp h.top
  obtain ⟨r, hr⟩ := State.topJava?_eq_some.mp hg0
  have hr' : (({ U with heap := s₂.heap, slotsUsed := s₂.slotsUsed } : State).setVm s₂.vm).frames = .java g₀ :: r := hr
  rcases hq' with ⟨hqc, L, hfe, hL⟩ | ⟨q, rfl, E, ce, L, hx, hce, hcv, hcl, hW₂, hsm, hL⟩
  · obtain ⟨⟨v, rfl⟩, hW₂, e2, q2, q3, q4, q5, q6⟩ := id hfe
    have e3 : s₂ = ({ (U.calling g mk a).setFrames s₂.frames with heap := s₂.heap, slotsUsed := s₂.slotsUsed } : State).setVm s₂.vm := by
      have : s₂ = ({ s₂ with vm := (U.calling g mk a).vm } : State).setVm s₂.vm := rfl
      rw [e2] at this
      exact this
    obtain ⟨c₂, i₂, len₂, hc₂, hd₂, hf₂⟩ := hend
    have hW' : U.WarmedH s₂.vm := hW₂
    have hcc : c₂ = c := by
      have h1 : s₂.code? g.method = U.code? g.method := by
        rw [State.code?_eq, State.code?_eq, hW'.alike.method?]
      exact Option.some.inj (hc₂.symm.trans (h1.trans h.code))
    subst hcc
    have hlen : len₂ = len := by rw [hdg] at hd₂; cases hd₂; rfl
    subst hlen
    have hs₂ : s₂ = (({ U with heap := s₂.heap, slotsUsed := s₂.slotsUsed } : State).setVm s₂.vm).setTop { g with pc := g.pc + len₂, stack := v.toList ++ g.stack } := by
      refine e3.trans ?_
      rw [hf₂, State.calling_eq h.top, State.setFrames_setFrames, State.setTop_of_frames _ hr', hr]
      rfl
    have hsame : U.sameButNew ({ U with heap := s₂.heap, slotsUsed := s₂.slotsUsed } : State) L mc ms := by
      refine ⟨?_, q2, q3, q4, q5, q6⟩
      obtain ⟨t, ht, -⟩ := State.frames_cons hr
      show ({ U with heap := s₂.heap, slotsUsed := s₂.slotsUsed } : State) = { U.setFrames U.frames with heap := s₂.heap, slotsUsed := s₂.slotsUsed }
      rw [State.setFrames_self ht]
    subst hg
    refine Or.inl ⟨v, ⟨(({ U with heap := s₂.heap, slotsUsed := s₂.slotsUsed } : State).setVm s₂.vm), Ls ++ L, c0 + mc, s0 + ms⟩,
      ⟨X.admits, X.cas, X.clock, X.frames, X.room, X.hears, X.method, X.code, (X.here.setHeapUsed s₂.heap s₂.slotsUsed).setVm hW'.alike, X.tail, State.WarmedH.trans X.warmed hW', X.limits, X.bytes, X.same.trans (hsame.setVm s.vm)⟩,
      ⟨g, mk, s₂, L, rfl, rfl, hqc, rfl, hL, rfl, rfl⟩, ?_⟩
    show Steps p.tables e below _ ((({ U with heap := s₂.heap, slotsUsed := s₂.slotsUsed } : State).setVm s₂.vm).setTop { g with pc := g.pc + len₂, stack := v.toList ++ g.stack })
    rw [← hs₂]
    exact hsteps
  · obtain ⟨e2, q2, q3, q4, q5, q6⟩ := id hsm
    have e3 : s₂ = ({ (U.calling g mk a).setFrames s₂.frames with heap := s₂.heap, slotsUsed := s₂.slotsUsed } : State).setVm s₂.vm := by
      have : s₂ = ({ s₂ with vm := (U.calling g mk a).vm } : State).setVm s₂.vm := rfl
      rw [e2] at this
      exact this
    have hf₂ : s₂.frames = .throwing q :: .java g :: U.frames.tail := hend
    have hW' : U.WarmedH s₂.vm := hW₂
    have hs₂ : s₂ = ((({ U with heap := s₂.heap, slotsUsed := s₂.slotsUsed } : State).setVm s₂.vm).setTop g).pushFrame (.throwing q) := by
      refine e3.trans ?_
      rw [hf₂, State.calling_eq h.top, State.setFrames_setFrames, State.pushFrame, State.frames_setTop _ hr', State.setTop_of_frames _ hr', State.setFrames_setFrames, hr]
      rfl
    have hsame : U.sameButNew ({ U with heap := s₂.heap, slotsUsed := s₂.slotsUsed } : State) L mc ms := by
      refine ⟨?_, q2, q3, q4, q5, q6⟩
      obtain ⟨t, ht, -⟩ := State.frames_cons hr
      show ({ U with heap := s₂.heap, slotsUsed := s₂.slotsUsed } : State) = { U.setFrames U.frames with heap := s₂.heap, slotsUsed := s₂.slotsUsed }
      rw [State.setFrames_self ht]
    subst hg
    refine Or.inr ⟨q, ⟨(({ U with heap := s₂.heap, slotsUsed := s₂.slotsUsed } : State).setVm s₂.vm), Ls ++ L, c0 + mc, s0 + ms⟩,
      ⟨X.admits, X.cas, X.clock, X.frames, X.room, X.hears, X.method, X.code, (X.here.setHeapUsed s₂.heap s₂.slotsUsed).setVm hW'.alike, X.tail, State.WarmedH.trans X.warmed hW', X.limits, X.bytes, X.same.trans (hsame.setVm s.vm)⟩,
      ⟨g, mk, s₂, L, E, ce, rfl, rfl, hx, hce, hcv, hcl, rfl, hL, rfl, rfl⟩, ?_⟩
    show Steps p.tables e below _ (((({ U with heap := s₂.heap, slotsUsed := s₂.slotsUsed } : State).setVm s₂.vm).setTop g).pushFrame (.throwing q))
    rw [← hs₂]
    exact hsteps
end Payer
section Calls
variable {p : Program} {l : Launch} {e : Env} {R : Room} {s : State} {m : MethodId} {args : Array Value} {below : List Frame} {meth : Method} {c : Code} {T : State} {locs : List Loc} {cells slots : Nat}
theorem vx_callV (X : Stand p l e R s m args below meth c T locs cells slots) (hexec : p.tables.exec = Jvm.exec) {own C : String} {index : Nat} {y : MethodName} {bytes : ByteArray} {maxL : Nat} {ret : Option FieldType}
    (hown : s.vm.findClass own = some m.cls) (hlink : (Cond.methodLink own index y).before args s = true) (hinst : (Cond.instanceMethod y).before args s = true) (hsel : (Cond.selects C y y).before args s = true)
    (hcode : (Cond.code y bytes maxL ret).before args s = true) (hy : y.cls ≠ "java/lang/invoke/MethodHandle" ∧ y.cls ≠ "java/lang/invoke/VarHandle")
    {W9 : Nat} {Pre : Pt → Array Value → Prop} {Post : Pt → Array Value → Option Value → Pt → Prop} {PostX : Pt → Array Value → Addr → Pt → Prop} (hK : vx_Back l R p e below s args y 3 W9 Pre Post PostX)
    {b : Addr} {cellB : Cell} (hcell : T.heap[b]? = some cellB) (hobj : cellB.vm.isStatics = false) (hcls : s.vm.findClass C = some cellB.cls)
    {g : JFrame} (hg : g.method = m) (hsize : g.locals.size = c.maxLocals) {argsL rest : List Value} (hlen : ∀ sig, parseMethodDescriptor y.desc = some sig → argsL.length = sig.parameters.length)
    (hstack : g.stack = argsL.reverse ++ .ref b :: rest) (hW : 2 * g.monitorRoom + (rest.map fun v => v.category).sum ≤ W9) (hdg : decode c.code g.pc = .ok (.invokevirtual index, 3))
    (hpre : ∀ vm₁, s.WarmedH vm₁ → Pre ⟨T.setVm vm₁, locs, cells, slots⟩ (Value.ref b :: argsL).toArray) :
    (∃ (v : Option Value) (vm₁ : Vm) (B : Pt), s.WarmedH vm₁ ∧ Stand p l e R s m args below meth c B.U B.locs B.cells B.slots ∧ Post ⟨T.setVm vm₁, locs, cells, slots⟩ (Value.ref b :: argsL).toArray v B ∧
      ∀ target, Steps p.tables e below (B.U.setTop { g with pc := g.pc + 3, stack := v.toList ++ rest }) target → Steps p.tables e below (T.setTop g) target) ∨
    (∃ (q : Addr) (vm₁ : Vm) (B : Pt), s.WarmedH vm₁ ∧ Stand p l e R s m args below meth c B.U B.locs B.cells B.slots ∧ PostX ⟨T.setVm vm₁, locs, cells, slots⟩ (Value.ref b :: argsL).toArray q B ∧
      Steps p.tables e below (T.setTop g) ((B.U.setTop { g with stack := rest }).pushFrame (.throwing q))) := by
  obtain ⟨mk, methM, hnamed, hmethM, hstM, habM⟩ := Cond.instanceMethod_spec hinst
  obtain ⟨methM', cM, hmethM', -, -, -, -, -, -, hsigM⟩ := Cond.code_spec hnamed hcode
  cases hmethM.symm.trans hmethM'
  obtain ⟨c2, r2, m2, q1, q2, q3, q4, kP, hkP, hkPi⟩ := Cond.selects_spec hsel
  cases hcls.symm.trans q1
  cases (State.methodFound?_of_named hnamed hy).symm.trans q2
  cases hnamed.symm.trans q3
  have hselP : selectMethod e.platform s.vm cellB.cls mk = .method mk := by rw [Launch.admits_selectMethod X.admits]; exact q4
  obtain ⟨vm₁, X₁, hstep₁⟩ := X.invokevirtual hexec hown hlink hnamed hmethM hstM hkP hkPi hy (a := b) (cell := cellB) hcell
    (fun z h => by rw [h] at hobj; cases hobj) hselP hmethM habM hkP hkPi (g := g) hg (argsL := argsL) (rest := rest) (hlen _ hsigM) hstack hdg
  rcases hK m meth c ⟨T.setVm vm₁, locs, cells, slots⟩ { g with stack := rest } (.invokevirtual index) mk (Value.ref b :: argsL).toArray X₁ hg hsize hdg hW (X₁.named hnamed) (hpre vm₁ X₁.warmed) with ⟨v, B, X', hpost, hsteps⟩ | ⟨q, B, X', hpost, hsteps⟩
  · exact Or.inl ⟨v, vm₁, B, X₁.warmed, X', hpost, fun target h => hstep₁ _ fun acts => by rw [doInvoke_state]; exact hsteps.trans h⟩
  · exact Or.inr ⟨q, vm₁, B, X₁.warmed, X', hpost, hstep₁ _ fun acts => by rw [doInvoke_state]; exact hsteps⟩
theorem vx_callS (X : Stand p l e R s m args below meth c T locs cells slots) (hexec : p.tables.exec = Jvm.exec) {own : String} {index : Nat} {y : MethodName} {bytes : ByteArray} {maxL : Nat} {ret : Option FieldType}
    (hown : s.vm.findClass own = some m.cls) (hlink : (Cond.methodLink own index y).before args s = true) (hstat : (Cond.static y).before args s = true) (hinit : (Cond.initialized y.cls).before args s = true)
    (hcode : (Cond.code y bytes maxL ret).before args s = true) (hy : y.cls ≠ "java/lang/invoke/MethodHandle" ∧ y.cls ≠ "java/lang/invoke/VarHandle")
    {W9 : Nat} {Pre : Pt → Array Value → Prop} {Post : Pt → Array Value → Option Value → Pt → Prop} {PostX : Pt → Array Value → Addr → Pt → Prop} (hK : vx_Back l R p e below s args y 3 W9 Pre Post PostX)
    {g : JFrame} (hg : g.method = m) (hsize : g.locals.size = c.maxLocals) {argsL rest : List Value} (hlen : ∀ sig, parseMethodDescriptor y.desc = some sig → argsL.length = sig.parameters.length)
    (hstack : g.stack = argsL.reverse ++ rest) (hW : 2 * g.monitorRoom + (rest.map fun v => v.category).sum ≤ W9) (hdg : decode c.code g.pc = .ok (.invokestatic index, 3))
    (hpre : ∀ vm₁, s.WarmedH vm₁ → Pre ⟨T.setVm vm₁, locs, cells, slots⟩ argsL.toArray) :
    (∃ (v : Option Value) (vm₁ : Vm) (B : Pt), s.WarmedH vm₁ ∧ Stand p l e R s m args below meth c B.U B.locs B.cells B.slots ∧ Post ⟨T.setVm vm₁, locs, cells, slots⟩ argsL.toArray v B ∧
      ∀ target, Steps p.tables e below (B.U.setTop { g with pc := g.pc + 3, stack := v.toList ++ rest }) target → Steps p.tables e below (T.setTop g) target) ∨
    (∃ (q : Addr) (vm₁ : Vm) (B : Pt), s.WarmedH vm₁ ∧ Stand p l e R s m args below meth c B.U B.locs B.cells B.slots ∧ PostX ⟨T.setVm vm₁, locs, cells, slots⟩ argsL.toArray q B ∧
      Steps p.tables e below (T.setTop g) ((B.U.setTop { g with stack := rest }).pushFrame (.throwing q))) := by
  obtain ⟨mk, hnamed⟩ := Cond.code_named hcode
  obtain ⟨methM, cM, hmethM, -, -, -, -, -, -, hsigM⟩ := Cond.code_spec hnamed hcode
  have hstatic : methM.isStatic = true := Cond.static_spec hnamed hmethM hstat
  obtain ⟨kP, hkP, -⟩ := className_of_methodNamed hnamed
  have hinitP : kP.init = .initialized := Cond.initialized_spec (findClass_of_methodNamed hnamed) hkP hinit
  obtain ⟨vm₁, X₁, hstep₁⟩ := X.invokestatic hexec hown hlink hnamed hmethM hstatic hkP hinitP hy (g := g) hg (argsL := argsL) (rest := rest) (hlen _ hsigM) hstack hdg
  rcases hK m meth c ⟨T.setVm vm₁, locs, cells, slots⟩ { g with stack := rest } (.invokestatic index) mk argsL.toArray X₁ hg hsize hdg hW (X₁.named hnamed) (hpre vm₁ X₁.warmed) with ⟨v, B, X', hpost, hsteps⟩ | ⟨q, B, X', hpost, hsteps⟩
  · exact Or.inl ⟨v, vm₁, B, X₁.warmed, X', hpost, fun target h => hstep₁ _ fun acts => by rw [doInvoke_state]; exact hsteps.trans h⟩
  · exact Or.inr ⟨q, vm₁, B, X₁.warmed, X', hpost, hstep₁ _ fun acts => by rw [doInvoke_state]; exact hsteps⟩
end Calls
theorem vx_cls {s : State} {T : State} {vm₁ : Vm} {E : String} {k : ClassId} (hW : s.WarmedH vm₁) (h : (T.setVm vm₁).vm.findClass E = some k) : s.vm.findClass E = some k := by
  have h1 : vm₁.findClass E = some k := h
  rw [hW.alike.findClass] at h1
  exact h1
/-- the method's frame g, with q thrown over it -/
def vx_W (p : Program) (l : Launch) (e : Env) (R : Room) (s : State) (m : MethodId) (args : Array Value) (below : List Frame) (meth : Method) (c : Code) (H : Heap) (locs : List Loc) (cells slots : Nat) (Q : State → Prop) (g : JFrame) (q : Addr) : Prop :=
  ∀ T : State, T.heap = H → Stand p l e R s m args below meth c T locs cells slots → ∃ t, Steps p.tables e below ((T.setTop g).pushFrame (.throwing q)) t ∧ Q t
def vx_Run (p : Program) (l : Launch) (e : Env) (R : Room) (s : State) (m : MethodId) (args : Array Value) (below : List Frame) (meth : Method) (c : Code) (H : Heap) (locs : List Loc) (cells slots mc ms : Nat) (g : JFrame) (rest : List Value) (Qa : State → Outcome → State → Prop) (XC : String → State → State → Prop) (free : Addr → Prop) : Prop :=
  ∀ T : State, T.heap = H → Stand p l e R s m args below meth c T locs cells slots →
    (∃ (v : Option Value) (st₀ t T' : State) (L : List Loc), st₀.heap = H ∧ Stand p l e R s m args below meth c T' (locs ++ L) (cells + mc) (slots + ms) ∧ (∀ q ∈ L, free q.base) ∧ T'.heap = t.heap ∧ T'.vm = t.vm ∧ Qa st₀ (.returned v) t ∧
      Goes p e below T g T' { g with pc := g.pc + 3, stack := v.toList ++ rest }) ∨
    (∃ (q : Addr) (st₀ t T' : State) (L : List Loc) (E : String) (ce : Cell), st₀.heap = H ∧ Stand p l e R s m args below meth c T' (locs ++ L) (cells + mc) (slots + ms) ∧ (∀ z ∈ L, free z.base) ∧ T'.heap = t.heap ∧ T'.vm = t.vm ∧ XC E st₀ t ∧ t.heap[q]? = some ce ∧ ce.vm = .none ∧ s.vm.findClass E = some ce.cls ∧
      Steps p.tables e below (T.setTop g) ((T'.setTop { g with stack := rest }).pushFrame (.throwing q)))
def vx_X {S : Type} (px : S → Prop) (B : String → S → State → Prop) (A : Nat → Prop) : String → State → State → Prop := fun E st t => ∃ u : S, px u ∧ B E u t ∧ va_F A st t
section Runs
variable {p : Program} {l : Launch} {e : Env} {R : Room} {s : State} {m : MethodId} {args : Array Value} {below : List Frame} {meth : Method} {c : Code} {H : Heap} {locs : List Loc} {cells slots : Nat}
variable {y : MethodName} {bytes cc : ByteArray} {maxL nL mc ms n index : Nat} {ret : Option FieldType} {ws : List Cond} {rm : Room} {Pc : Array Value → State → Prop} {Qc : Array Value → State → Outcome → State → Prop} {XC : String → State → State → Prop} {free : Addr → Prop} {Ts : List Cond} {own C : String} {b : Addr} {As rest : List Value} {g : JFrame}
theorem vx_callBack (cb : CallB R s args own index y bytes maxL ret ws rm mc ms n) (hM : vx_Met l y ws rm Pc Qc XC mc ms free) (hbl : FrameBlind Pc) : vx_Back l R p e below s args y 3 8 (PreOf R mc ms Pc) (PostOf Qc mc ms free) (vx_Post XC mc ms free) := by
  obtain ⟨hrc, hrs, hfr, hlo, hws, hcw, -, hini, -⟩ := cb
  exact vx_back (bytes := bytes) (maxL := maxL) (ret := ret) hM hbl hrc hrs hfr hlo hws hcw (fun a' U hW => word_at hW (Or.inl (by first | rfl | simp [Cond.onTables, Cond.keeps, Cond.steady])) hini)
theorem vx_runV (S : CallFix p m c cc nL s args Ts own) (hM : vx_Met l y ws rm Pc Qc XC mc ms free) (cw : CallW R s args own C index y bytes maxL ret ws rm mc ms n) (hp : PreV s H C b Pc As)
    (hg : g.method = m) (hn : As.length = n) (hsize : g.locals.size = nL) (hstack : g.stack = As.reverse ++ .ref b :: rest) (hW : 2 * g.monitorRoom + (rest.map fun v => v.category).sum ≤ 8) (hdg : decode cc g.pc = .ok (.invokevirtual index, 3)) (hf : cells + mc ≤ R.cells ∧ slots + ms ≤ R.slots) :
    vx_Run p l e R s m args below meth c H locs cells slots mc ms g rest (Qc (Value.ref b :: As).toArray) XC free := by
  have hK : vx_Back l R p e below s args y 3 8 (PreOf R mc ms Pc) (PostOf Qc mc ms free) (vx_Post XC mc ms free) := vx_callBack cw.1 hM hp.1
  obtain ⟨⟨-, -, -, -, -, -, hcode, -, hy, hlen, hl⟩, hin, hse⟩ := cw
  obtain ⟨hx, hb, hml, ho, -⟩ := S
  obtain ⟨-, ⟨cellB, hcB, hoB, hclB⟩, hPc⟩ := hp
  intro T hT X
  rcases vx_callV X hx (C := C) (bytes := bytes) (maxL := maxL) (ret := ret) ho hl hin hse hcode hy hK (by rw [hT]; exact hcB) hoB hclB hg (hsize.trans hml.symm) (argsL := As) (rest := rest) (fun sig h => hn.trans (hlen sig h)) hstack hW (by rw [hb]; exact hdg)
    (fun vm₁ hW₁ => ⟨hf.1, hf.2, hPc (T.setVm vm₁) hT hW₁⟩) with ⟨v, vm₁, ⟨U', l2, c2, s2⟩, hW₁, X', ⟨g', mk, t, L, e1, e2, hq, h1, hL, h2, h3⟩, st⟩ | ⟨q, vm₁, ⟨U', l2, c2, s2⟩, hW₁, X', ⟨g', mk, t, L, E, ce, e1, e2, hq, hce, hcv, hcl, h1, hL, h2, h3⟩, st⟩
  · dsimp only [Pt.U, Pt.locs, Pt.cells, Pt.slots] at X' e1 e2 h1 h2 h3 st
    subst h1; subst h2; subst h3
    exact Or.inl ⟨v, (T.setVm vm₁).calling g' mk (Value.ref b :: As).toArray, t, U', L, hT, X', hL, e1, e2, hq, st⟩
  · dsimp only [Pt.U, Pt.locs, Pt.cells, Pt.slots] at X' e1 e2 h1 h2 h3 st hcl
    subst h1; subst h2; subst h3
    exact Or.inr ⟨q, (T.setVm vm₁).calling g' mk (Value.ref b :: As).toArray, t, U', L, E, ce, hT, X', hL, e1, e2, hq, hce, hcv, vx_cls hW₁ hcl, st⟩
theorem vx_runS (S : CallFix p m c cc nL s args Ts own) (hM : vx_Met l y ws rm Pc Qc XC mc ms free) (cw : CallB R s args own index y bytes maxL ret ws rm mc ms n ∧ (Cond.static y).before args s = true) (hp : PreS s H Pc As)
    (hg : g.method = m) (hn : As.length = n) (hsize : g.locals.size = nL) (hstack : g.stack = As.reverse ++ rest) (hW : 2 * g.monitorRoom + (rest.map fun v => v.category).sum ≤ 8) (hdg : decode cc g.pc = .ok (.invokestatic index, 3)) (hf : cells + mc ≤ R.cells ∧ slots + ms ≤ R.slots) :
    vx_Run p l e R s m args below meth c H locs cells slots mc ms g rest (Qc As.toArray) XC free := by
  have hK : vx_Back l R p e below s args y 3 8 (PreOf R mc ms Pc) (PostOf Qc mc ms free) (vx_Post XC mc ms free) := vx_callBack cw.1 hM hp.1
  obtain ⟨⟨-, -, -, -, -, -, hcode, hini, hy, hlen, hl⟩, hstt⟩ := cw
  obtain ⟨hx, hb, hml, ho, -⟩ := S
  intro T hT X
  rcases vx_callS X hx (bytes := bytes) (maxL := maxL) (ret := ret) ho hl hstt hini hcode hy hK hg (hsize.trans hml.symm) (argsL := As) (rest := rest) (fun sig h => hn.trans (hlen sig h)) hstack hW (by rw [hb]; exact hdg)
    (fun vm₁ hW₁ => ⟨hf.1, hf.2, hp.2 (T.setVm vm₁) hT hW₁⟩) with ⟨v, vm₁, ⟨U', l2, c2, s2⟩, hW₁, X', ⟨g', mk, t, L, e1, e2, hq, h1, hL, h2, h3⟩, st⟩ | ⟨q, vm₁, ⟨U', l2, c2, s2⟩, hW₁, X', ⟨g', mk, t, L, E, ce, e1, e2, hq, hce, hcv, hcl, h1, hL, h2, h3⟩, st⟩
  · dsimp only [Pt.U, Pt.locs, Pt.cells, Pt.slots] at X' e1 e2 h1 h2 h3 st
    subst h1; subst h2; subst h3
    exact Or.inl ⟨v, (T.setVm vm₁).calling g' mk As.toArray, t, U', L, hT, X', hL, e1, e2, hq, st⟩
  · dsimp only [Pt.U, Pt.locs, Pt.cells, Pt.slots] at X' e1 e2 h1 h2 h3 st hcl
    subst h1; subst h2; subst h3
    exact Or.inr ⟨q, (T.setVm vm₁).calling g' mk As.toArray, t, U', L, E, ce, hT, X', hL, e1, e2, hq, hce, hcv, vx_cls hW₁ hcl, st⟩
end Runs
section Rows
variable {p : Program} {l : Launch} {e : Env} {R : Room} {s : State} {m : MethodId} {args : Array Value} {below : List Frame} {meth : Method} {c : Code} {H : Heap} {locs : List Loc} {cells slots : Nat} {Q : State → Prop}
variable {mc ms : Nat} {free : Addr → Prop} {A0 A1 : Nat → Prop} {H0 : Heap} {a : Array Value} {pc : Nat} {ls : Array Slot} {st0 rest : List Value}
theorem vx_keep {st₀ t T' : State} {L : List Loc} (h0 : st₀.heap = H) (e1 : T'.heap = t.heap) (hS : va_S A0 H0 H locs) (hA : ∀ q, q < H.size → A1 q → A0 q) (hf : ∀ q, free q → A0 q) (hL : ∀ q ∈ L, free q.base) (hF : va_F A1 st₀ t) :
    H.size ≤ T'.heap.size ∧ (∀ q : Nat, q < H.size → ¬ A1 q → T'.heap[q]? = H[q]?) ∧ va_S A0 H0 T'.heap (locs ++ L) := by
  obtain ⟨hz, hk⟩ := hF
  rw [h0] at hz hk
  exact ⟨by rw [e1]; exact hz, fun q h1 h2 => by rw [e1]; exact hk q h1 h2,
    ⟨Nat.le_trans hS.1 (by rw [e1]; exact hz), fun q h1 h2 => by rw [e1, hk q (Nat.lt_of_lt_of_le h1 hS.1) (fun z => h2 (hA q (Nat.lt_of_lt_of_le h1 hS.1) z))]; exact hS.2.1 q h1 h2, fun q hq => by
      rcases List.mem_append.mp hq with h | h
      · exact hS.2.2 q h
      · exact hf _ (hL q h)⟩⟩
theorem vx_calli {S SX : Type} {post : Int32 → S → Prop} {px : SX → Prop} {B : S → State → Prop} {BX : String → SX → State → Prop} {AX : Nat → Prop} (hr : vx_Run p l e R s m args below meth c H locs cells slots mc ms (F0 m pc ls st0) rest (va_Qi post B A1 a) (vx_X px BX AX) free) (hS : va_S A0 H0 H locs) (hA : ∀ q, q < H.size → A1 q → A0 q) (hf : ∀ q, free q → A0 q) (hAX : ∀ q, q < H.size → AX q → A0 q)
    (kx : ∀ (E : String) (ce : Cell) (q9 : Addr) (u : SX) (t : State) (H1 : Heap) (locs1 : List Loc), t.heap = H1 → s.vm.Alike t.vm → px u → BX E u t → H.size ≤ H1.size → (∀ q : Nat, q < H.size → ¬ AX q → H1[q]? = H[q]?) → va_S A0 H0 H1 locs1 → H1[q9]? = some ce → ce.vm = .none → s.vm.findClass E = some ce.cls → vx_W p l e R s m args below meth c H1 locs1 (cells + mc) (slots + ms) Q (F0 m pc ls rest) q9)
    (kk : ∀ (r : Int32) (u : S) (t : State) (H1 : Heap) (locs1 : List Loc), t.heap = H1 → s.vm.Alike t.vm → post r u → B u t → H.size ≤ H1.size → (∀ q : Nat, q < H.size → ¬ A1 q → H1[q]? = H[q]?) → va_S A0 H0 H1 locs1 → W p l e R s m args below meth c H1 locs1 (cells + mc) (slots + ms) Q (F0 m (pc + 3) ls (.int r :: rest))) : W p l e R s m args below meth c H locs cells slots Q (F0 m pc ls st0) := by
  intro T hT X
  rcases hr T hT X with ⟨v, st₀, t, T', L, h0, X', hL, e1, e2, ⟨⟨r, u, hv, hp, hb⟩, hF⟩, st⟩ | ⟨q, st₀, t, T', L, E, ce, h0, X', hL, e1, e2, ⟨u, hp, hb, hF⟩, hce, hcv, hcl, st⟩
  · cases hv
    obtain ⟨k1, k2, k3⟩ := vx_keep h0 e1 hS hA hf hL hF
    obtain ⟨t2, a1, b1⟩ := kk r u t T'.heap (locs ++ L) e1.symm (by rw [← e2]; exact X'.warmed.alike) hp hb k1 k2 k3 T' rfl X'
    exact ⟨t2, st t2 a1, b1⟩
  · obtain ⟨k1, k2, k3⟩ := vx_keep h0 e1 hS hAX hf hL hF
    obtain ⟨t2, a1, b1⟩ := kx E ce q u t T'.heap (locs ++ L) e1.symm (by rw [← e2]; exact X'.warmed.alike) hp hb k1 k2 k3 (by rw [e1]; exact hce) hcv hcl T' rfl X'
    exact ⟨t2, st.trans a1, b1⟩
theorem vx_calll {S SX : Type} {post : Int64 → S → Prop} {px : SX → Prop} {B : S → State → Prop} {BX : String → SX → State → Prop} {AX : Nat → Prop} (hr : vx_Run p l e R s m args below meth c H locs cells slots mc ms (F0 m pc ls st0) rest (va_Ql post B A1 a) (vx_X px BX AX) free) (hS : va_S A0 H0 H locs) (hA : ∀ q, q < H.size → A1 q → A0 q) (hf : ∀ q, free q → A0 q) (hAX : ∀ q, q < H.size → AX q → A0 q)
    (kx : ∀ (E : String) (ce : Cell) (q9 : Addr) (u : SX) (t : State) (H1 : Heap) (locs1 : List Loc), t.heap = H1 → s.vm.Alike t.vm → px u → BX E u t → H.size ≤ H1.size → (∀ q : Nat, q < H.size → ¬ AX q → H1[q]? = H[q]?) → va_S A0 H0 H1 locs1 → H1[q9]? = some ce → ce.vm = .none → s.vm.findClass E = some ce.cls → vx_W p l e R s m args below meth c H1 locs1 (cells + mc) (slots + ms) Q (F0 m pc ls rest) q9)
    (kk : ∀ (r : Int64) (u : S) (t : State) (H1 : Heap) (locs1 : List Loc), t.heap = H1 → s.vm.Alike t.vm → post r u → B u t → H.size ≤ H1.size → (∀ q : Nat, q < H.size → ¬ A1 q → H1[q]? = H[q]?) → va_S A0 H0 H1 locs1 → W p l e R s m args below meth c H1 locs1 (cells + mc) (slots + ms) Q (F0 m (pc + 3) ls (.long r :: rest))) : W p l e R s m args below meth c H locs cells slots Q (F0 m pc ls st0) := by
  intro T hT X
  rcases hr T hT X with ⟨v, st₀, t, T', L, h0, X', hL, e1, e2, ⟨⟨r, u, hv, hp, hb⟩, hF⟩, st⟩ | ⟨q, st₀, t, T', L, E, ce, h0, X', hL, e1, e2, ⟨u, hp, hb, hF⟩, hce, hcv, hcl, st⟩
  · cases hv
    obtain ⟨k1, k2, k3⟩ := vx_keep h0 e1 hS hA hf hL hF
    obtain ⟨t2, a1, b1⟩ := kk r u t T'.heap (locs ++ L) e1.symm (by rw [← e2]; exact X'.warmed.alike) hp hb k1 k2 k3 T' rfl X'
    exact ⟨t2, st t2 a1, b1⟩
  · obtain ⟨k1, k2, k3⟩ := vx_keep h0 e1 hS hAX hf hL hF
    obtain ⟨t2, a1, b1⟩ := kx E ce q u t T'.heap (locs ++ L) e1.symm (by rw [← e2]; exact X'.warmed.alike) hp hb k1 k2 k3 (by rw [e1]; exact hce) hcv hcl T' rfl X'
    exact ⟨t2, st.trans a1, b1⟩
theorem vx_callf {S SX : Type} {post : UInt32 → S → Prop} {px : SX → Prop} {B : S → State → Prop} {BX : String → SX → State → Prop} {AX : Nat → Prop} (hr : vx_Run p l e R s m args below meth c H locs cells slots mc ms (F0 m pc ls st0) rest (va_Qf post B A1 a) (vx_X px BX AX) free) (hS : va_S A0 H0 H locs) (hA : ∀ q, q < H.size → A1 q → A0 q) (hf : ∀ q, free q → A0 q) (hAX : ∀ q, q < H.size → AX q → A0 q)
    (kx : ∀ (E : String) (ce : Cell) (q9 : Addr) (u : SX) (t : State) (H1 : Heap) (locs1 : List Loc), t.heap = H1 → s.vm.Alike t.vm → px u → BX E u t → H.size ≤ H1.size → (∀ q : Nat, q < H.size → ¬ AX q → H1[q]? = H[q]?) → va_S A0 H0 H1 locs1 → H1[q9]? = some ce → ce.vm = .none → s.vm.findClass E = some ce.cls → vx_W p l e R s m args below meth c H1 locs1 (cells + mc) (slots + ms) Q (F0 m pc ls rest) q9)
    (kk : ∀ (r : UInt32) (u : S) (t : State) (H1 : Heap) (locs1 : List Loc), t.heap = H1 → s.vm.Alike t.vm → post r u → B u t → H.size ≤ H1.size → (∀ q : Nat, q < H.size → ¬ A1 q → H1[q]? = H[q]?) → va_S A0 H0 H1 locs1 → W p l e R s m args below meth c H1 locs1 (cells + mc) (slots + ms) Q (F0 m (pc + 3) ls (.float r :: rest))) : W p l e R s m args below meth c H locs cells slots Q (F0 m pc ls st0) := by
  intro T hT X
  rcases hr T hT X with ⟨v, st₀, t, T', L, h0, X', hL, e1, e2, ⟨⟨r, u, hv, hp, hb⟩, hF⟩, st⟩ | ⟨q, st₀, t, T', L, E, ce, h0, X', hL, e1, e2, ⟨u, hp, hb, hF⟩, hce, hcv, hcl, st⟩
  · cases hv
    obtain ⟨k1, k2, k3⟩ := vx_keep h0 e1 hS hA hf hL hF
    obtain ⟨t2, a1, b1⟩ := kk r u t T'.heap (locs ++ L) e1.symm (by rw [← e2]; exact X'.warmed.alike) hp hb k1 k2 k3 T' rfl X'
    exact ⟨t2, st t2 a1, b1⟩
  · obtain ⟨k1, k2, k3⟩ := vx_keep h0 e1 hS hAX hf hL hF
    obtain ⟨t2, a1, b1⟩ := kx E ce q u t T'.heap (locs ++ L) e1.symm (by rw [← e2]; exact X'.warmed.alike) hp hb k1 k2 k3 (by rw [e1]; exact hce) hcv hcl T' rfl X'
    exact ⟨t2, st.trans a1, b1⟩
theorem vx_calld {S SX : Type} {post : UInt64 → S → Prop} {px : SX → Prop} {B : S → State → Prop} {BX : String → SX → State → Prop} {AX : Nat → Prop} (hr : vx_Run p l e R s m args below meth c H locs cells slots mc ms (F0 m pc ls st0) rest (va_Qd post B A1 a) (vx_X px BX AX) free) (hS : va_S A0 H0 H locs) (hA : ∀ q, q < H.size → A1 q → A0 q) (hf : ∀ q, free q → A0 q) (hAX : ∀ q, q < H.size → AX q → A0 q)
    (kx : ∀ (E : String) (ce : Cell) (q9 : Addr) (u : SX) (t : State) (H1 : Heap) (locs1 : List Loc), t.heap = H1 → s.vm.Alike t.vm → px u → BX E u t → H.size ≤ H1.size → (∀ q : Nat, q < H.size → ¬ AX q → H1[q]? = H[q]?) → va_S A0 H0 H1 locs1 → H1[q9]? = some ce → ce.vm = .none → s.vm.findClass E = some ce.cls → vx_W p l e R s m args below meth c H1 locs1 (cells + mc) (slots + ms) Q (F0 m pc ls rest) q9)
    (kk : ∀ (r : UInt64) (u : S) (t : State) (H1 : Heap) (locs1 : List Loc), t.heap = H1 → s.vm.Alike t.vm → post r u → B u t → H.size ≤ H1.size → (∀ q : Nat, q < H.size → ¬ A1 q → H1[q]? = H[q]?) → va_S A0 H0 H1 locs1 → W p l e R s m args below meth c H1 locs1 (cells + mc) (slots + ms) Q (F0 m (pc + 3) ls (.double r :: rest))) : W p l e R s m args below meth c H locs cells slots Q (F0 m pc ls st0) := by
  intro T hT X
  rcases hr T hT X with ⟨v, st₀, t, T', L, h0, X', hL, e1, e2, ⟨⟨r, u, hv, hp, hb⟩, hF⟩, st⟩ | ⟨q, st₀, t, T', L, E, ce, h0, X', hL, e1, e2, ⟨u, hp, hb, hF⟩, hce, hcv, hcl, st⟩
  · cases hv
    obtain ⟨k1, k2, k3⟩ := vx_keep h0 e1 hS hA hf hL hF
    obtain ⟨t2, a1, b1⟩ := kk r u t T'.heap (locs ++ L) e1.symm (by rw [← e2]; exact X'.warmed.alike) hp hb k1 k2 k3 T' rfl X'
    exact ⟨t2, st t2 a1, b1⟩
  · obtain ⟨k1, k2, k3⟩ := vx_keep h0 e1 hS hAX hf hL hF
    obtain ⟨t2, a1, b1⟩ := kx E ce q u t T'.heap (locs ++ L) e1.symm (by rw [← e2]; exact X'.warmed.alike) hp hb k1 k2 k3 (by rw [e1]; exact hce) hcv hcl T' rfl X'
    exact ⟨t2, st.trans a1, b1⟩
theorem vx_callv {S SX : Type} {post : S → Prop} {px : SX → Prop} {B : S → State → Prop} {BX : String → SX → State → Prop} {AX : Nat → Prop} (hr : vx_Run p l e R s m args below meth c H locs cells slots mc ms (F0 m pc ls st0) rest (va_Qv post B A1 a) (vx_X px BX AX) free) (hS : va_S A0 H0 H locs) (hA : ∀ q, q < H.size → A1 q → A0 q) (hf : ∀ q, free q → A0 q) (hAX : ∀ q, q < H.size → AX q → A0 q)
    (kx : ∀ (E : String) (ce : Cell) (q9 : Addr) (u : SX) (t : State) (H1 : Heap) (locs1 : List Loc), t.heap = H1 → s.vm.Alike t.vm → px u → BX E u t → H.size ≤ H1.size → (∀ q : Nat, q < H.size → ¬ AX q → H1[q]? = H[q]?) → va_S A0 H0 H1 locs1 → H1[q9]? = some ce → ce.vm = .none → s.vm.findClass E = some ce.cls → vx_W p l e R s m args below meth c H1 locs1 (cells + mc) (slots + ms) Q (F0 m pc ls rest) q9)
    (kk : ∀ (u : S) (t : State) (H1 : Heap) (locs1 : List Loc), t.heap = H1 → s.vm.Alike t.vm → post u → B u t → H.size ≤ H1.size → (∀ q : Nat, q < H.size → ¬ A1 q → H1[q]? = H[q]?) → va_S A0 H0 H1 locs1 → W p l e R s m args below meth c H1 locs1 (cells + mc) (slots + ms) Q (F0 m (pc + 3) ls (rest))) : W p l e R s m args below meth c H locs cells slots Q (F0 m pc ls st0) := by
  intro T hT X
  rcases hr T hT X with ⟨v, st₀, t, T', L, h0, X', hL, e1, e2, ⟨⟨u, hv, hp, hb⟩, hF⟩, st⟩ | ⟨q, st₀, t, T', L, E, ce, h0, X', hL, e1, e2, ⟨u, hp, hb, hF⟩, hce, hcv, hcl, st⟩
  · cases hv
    obtain ⟨k1, k2, k3⟩ := vx_keep h0 e1 hS hA hf hL hF
    obtain ⟨t2, a1, b1⟩ := kk u t T'.heap (locs ++ L) e1.symm (by rw [← e2]; exact X'.warmed.alike) hp hb k1 k2 k3 T' rfl X'
    exact ⟨t2, st t2 a1, b1⟩
  · obtain ⟨k1, k2, k3⟩ := vx_keep h0 e1 hS hAX hf hL hF
    obtain ⟨t2, a1, b1⟩ := kx E ce q u t T'.heap (locs ++ L) e1.symm (by rw [← e2]; exact X'.warmed.alike) hp hb k1 k2 k3 (by rw [e1]; exact hce) hcv hcl T' rfl X'
    exact ⟨t2, st.trans a1, b1⟩
/-- caught by the row x of this method's table; the rows ahead don't take it -/
theorem vx_catch {own name : String} {E : String} {ce : Cell} {q : Addr} (hown : s.vm.findClass own = some m.cls) (pre : List ExceptionTableEntry) (x : ExceptionTableEntry) (suf : List ExceptionTableEntry) (hsplit : c.exceptionTable.toList = pre ++ x :: suf)
    (hpass : ∀ z ∈ pre, covers z pc = false ∨ (z.catchType ≠ 0 ∧ ∃ nm : String, (Cond.classLink own z.catchType nm).before args s = true ∧ va_Nc E nm s)) (hx : covers x pc = true) (h0 : x.catchType ≠ 0)
    (hlink : (Cond.classLink own x.catchType name).before args s = true) (hcast : (Cond.castable E name).before args s = true) (hcell : H[q]? = some ce) (hv : ce.vm = .none) (hcl : s.vm.findClass E = some ce.cls)
    (kk : W p l e R s m args below meth c H locs cells slots Q (F0 m x.handlerPc ls [.ref q])) : vx_W p l e R s m args below meth c H locs cells slots Q (F0 m pc ls rest) q := by
  intro T hT X
  have hpl : e.platform.magicAccessors = ({} : Platform).magicAccessors := by rw [X.admits.platform]
  obtain ⟨c3, c4, hc3, hc4, hasg⟩ := Cond.castable_spec hcast
  cases Option.some.inj (hc3.symm.trans hcl)
  obtain ⟨c5, hc5, hcl5⟩ := Cond.classLink_spec hown hlink e.platform hpl
  cases Option.some.inj (hc4.symm.trans hc5)
  obtain ⟨vm', X', st⟩ := X.thenCaughtThrough q (g := F0 m pc ls rest) rfl (Steps.refl _) (by rw [hT]; exact hcell) (by rw [hv]; rfl) (by obtain ⟨k9, h9, -⟩ := Vm.findClass_spec hcl; exact ⟨k9, h9⟩) pre x suf hsplit
    (fun z hz => by
      rcases hpass z hz with h | ⟨hz0, nm, hl1, hn1⟩
      · exact Or.inl h
      · obtain ⟨c6, hc6, hcl6⟩ := Cond.classLink_spec hown hl1 e.platform hpl
        obtain ⟨a8, b8, h1, h2, h3⟩ := hn1
        cases Option.some.inj (h1.symm.trans hcl)
        cases Option.some.inj (h2.symm.trans hc6)
        exact Or.inr ⟨hz0, _, hcl6, h3⟩) hx (Or.inr ⟨h0, c4, hcl5, hasg⟩)
  obtain ⟨t, a1, b1⟩ := kk (T.setVm vm') hT X'
  exact ⟨t, st.trans a1, b1⟩
end Rows
section Ends
variable {p : Program} {l : Launch} {e : Env} {R : Room} {s : State} {m : MethodId} {args : Array Value} {below : List Frame} {meth : Method} {c : Code} {H : Heap} {locs : List Loc} {cells slots : Nat} {Q : State → Prop}
variable {mc ms : Nat} {free : Addr → Prop} {A0 A1 : Nat → Prop} {H0 : Heap} {a : Array Value} {ls : Array Slot} {st0 rest : List Value}
variable {Qc : Array Value → State → Outcome → State → Prop} {XC : String → State → State → Prop}
/-- what a body that may throw owes at its end -/
def vx_MQ (below : List Frame) (Qc : Array Value → State → Outcome → State → Prop) (XC : String → State → State → Prop) (a : Array Value) (s : State) (mc ms : Nat) (free : Addr → Prop) : State → Prop := fun t =>
  ∃ o, t.status = .running ∧ Ended t below o ∧ vx_Q Qc XC mc ms free a s o t
theorem vx_ret {g : JFrame} {mc ms : Nat} (k : W p l e R s m args below meth c H locs cells slots (MQ below Qc args s mc ms free) g) : W p l e R s m args below meth c H locs cells slots (vx_MQ below Qc XC args s mc ms free) g := by
  intro T hT X
  obtain ⟨t, a1, o, b1, b2, b3, b4⟩ := k T hT X
  exact ⟨t, a1, o, b1, b2, Or.inl ⟨b3, b4⟩⟩
/-- not caught here: it goes on to the caller -/
theorem vx_widen {g : JFrame} {q : Addr} {k n : Nat} (h1 : cells ≤ k) (h2 : slots ≤ n) (kk : vx_W p l e R s m args below meth c H locs k n Q g q) : vx_W p l e R s m args below meth c H locs cells slots Q g q := fun T hT X => kk T hT (stand_widen X h1 h2)
theorem vx_out {pc : Nat} {E : String} {ce : Cell} {q : Addr} {mc ms : Nat} (hout : ∀ x ∈ c.exceptionTable.toList, covers x pc = false) (hlocks : meth.locks = false) (hcell : H[q]? = some ce) (hv : ce.vm = .none) (hcl : s.vm.findClass E = some ce.cls)
    (hx : ∀ t : State, t.heap = H → s.vm.Alike t.vm → XC E s t) (hf : ∀ z ∈ locs, free z.base) (hc : cells ≤ mc) (hs : slots ≤ ms) :
    vx_W p l e R s m args below meth c H locs cells slots (vx_MQ below Qc XC args s mc ms free) (F0 m pc ls rest) q := by
  intro T hT X
  obtain ⟨st1, hrun, hend, hW, hsm⟩ := X.leaveThrown q (g := F0 m pc ls rest) rfl rfl rfl hout hlocks
  have hcell9 : (T.setFrames (.throwing q :: below)).heap[q]? = some ce := by
    show T.heap[q]? = some ce
    rw [hT]; exact hcell
  exact ⟨_, st1, .threw q, hrun, hend, Or.inr ⟨q, rfl, E, ce, locs, hx _ hT hW.alike, hcell9, hv, hcl, hW, hsm.mono hc hs, hf⟩⟩
theorem vx_frame {U : State} {k n : Nat} (h : s.sameButNew ({ U with vm := s.vm } : State) locs k n) : s.heap.size ≤ U.heap.size ∧ ∀ q : Nat, q < s.heap.size → (∀ z ∈ locs, z.base ≠ q) → U.heap[q]? = s.heap[q]? := by
  obtain ⟨-, h2, -, -, -, h6⟩ := h
  refine ⟨h2, fun q hq hz => ?_⟩
  obtain ⟨c9, e1, e2, e3, e4⟩ := h6 q _ (Array.getElem?_eq_getElem hq)
  have hs : c9.slots = (s.heap[q]).slots := Array.ext_getElem? fun i => e4 i fun hm => hz _ hm rfl
  have h9 : c9 = s.heap[q] := by
    rw [hs] at e2
    exact e2
  have e5 : U.heap[q]? = some c9 := e1
  rw [e5, h9, Array.getElem?_eq_getElem hq]
/-- the words of a throw but the four that speak of the heap -/
def vx_no (w : Cond) : Bool := decide (w ≠ .isRef (.static Bundle.tN "UNASSIGNED_STACK" Bundle.steD)) && decide (w ≠ .isRef (.static Bundle.tN "SUPPRESSED_SENTINEL" Bundle.listD)) && decide (w ≠ .laysStatic Bundle.tN "UNASSIGNED_STACK" Bundle.steD) && decide (w ≠ .laysStatic Bundle.tN "SUPPRESSED_SENTINEL" Bundle.listD)
def vx_at0 (own : String) (ic : Nat) (X : String) (names : List String) : List Cond := (Bundle.ownAtoms0 own ic X names).filter vx_no
def vx_atS (own : String) (ic : Nat) (X : String) (names : List String) : List Cond := (Bundle.ownAtoms own ic X names).filter vx_no
/-- a word that the tables alone decide, or a good one -/
def vx_ot (w : Cond) : Bool := w.onTables || goodWord w
theorem vx_ot_at {args a' : Array Value} {s U : State} {w : Cond} (hW : s.WarmedH U.vm) (hvm : s.vm = U.vm) (hg : vx_ot w = true) (h : w.before args s = true) : w.before a' U = true := by
  simp only [vx_ot, Bool.or_eq_true] at hg
  rcases hg with hg | hg
  · exact va_tabs hg hvm h
  · exact word_at hW (good_of_word hg) h
/-- a list's words: the good ones out of the method's own list, the others by premises of their own -/
theorem vx_hat {args : Array Value} {s : State} {L B : List Cond} (h1 : ∀ w ∈ L.filter goodWord, w.before args s = true) (h2 : ∀ w ∈ L.filter (fun w => !goodWord w), w ∈ B) (h3 : ∀ w ∈ B, w.before args s = true) : ∀ w ∈ L, w.before args s = true := by
  intro w hw
  by_cases g : goodWord w = true
  · exact h1 w (List.mem_filter.mpr ⟨hw, g⟩)
  · refine h3 w (h2 w (List.mem_filter.mpr ⟨hw, ?_⟩))
    show (!goodWord w) = true
    cases hgw : goodWord w
    · rfl
    · exact absurd hgw g
theorem vx_c {args : Array Value} {s : State} {w : Cond} {B : List Cond} (h : w.before args s = true) (t : ∀ w ∈ B, w.before args s = true) : ∀ w' ∈ w :: B, w'.before args s = true := fun w' h' => (List.mem_cons.mp h').elim (fun e => by rw [e]; exact h) (t w')
theorem vx_n {args : Array Value} {s : State} : ∀ w ∈ ([] : List Cond), w.before args s = true := fun _ h => nomatch h
theorem vx_own {args : Array Value} {s : State} {L : List Cond} (h1 : ∀ w ∈ L.filter vx_no, w.before args s = true)
    (hU : (Cond.isRef (.static Bundle.tN "UNASSIGNED_STACK" Bundle.steD)).before args s = true) (hN : (Cond.isRef (.static Bundle.tN "SUPPRESSED_SENTINEL" Bundle.listD)).before args s = true)
    (lU : (Cond.laysStatic Bundle.tN "UNASSIGNED_STACK" Bundle.steD).before args s = true) (lN : (Cond.laysStatic Bundle.tN "SUPPRESSED_SENTINEL" Bundle.listD).before args s = true) : ∀ w ∈ L, w.before args s = true := by
  intro w hw
  by_cases e1 : w = .isRef (.static Bundle.tN "UNASSIGNED_STACK" Bundle.steD)
  · rw [e1]; exact hU
  · by_cases e2 : w = .isRef (.static Bundle.tN "SUPPRESSED_SENTINEL" Bundle.listD)
    · rw [e2]; exact hN
    · by_cases e3 : w = .laysStatic Bundle.tN "UNASSIGNED_STACK" Bundle.steD
      · rw [e3]; exact lU
      · by_cases e4 : w = .laysStatic Bundle.tN "SUPPRESSED_SENTINEL" Bundle.listD
        · rw [e4]; exact lN
        · exact h1 w (List.mem_filter.mpr ⟨hw, by unfold vx_no; rw [decide_eq_true e1, decide_eq_true e2, decide_eq_true e3, decide_eq_true e4]; rfl⟩)
/-- where a static field lies, its class's statics cell in H -/
def vx_L (C n d : String) (A : Nat → Prop) (U : State) (H : Heap) : Prop := ∃ (c : ClassId) (k : Class) (i : Nat) (f : Field) (a : Nat) (cell : Cell), U.vm.findClass C = some c ∧ U.fieldFound? C n d = some (c, k, i, f) ∧ f.isStatic = true ∧ k.statics = some a ∧ H[a]? = some cell ∧ cell.vm.isStatics = true ∧ cell.cls = c ∧ f.slot < cell.slots.size ∧ k.staticTypes[f.slot]? = some f.type ∧ ¬ A a
theorem vx_L.moved {C n d : String} {A : Nat → Prop} {u U : State} {H : Heap} (hvm : u.vm.Alike U.vm) (h : vx_L C n d A u H) : vx_L C n d A U H := by
  obtain ⟨c, k, i, f, a, cell, h1, h2, h3, h4, h5, h6, h7, h8, h9, h10⟩ := h
  obtain ⟨k', hi', he⟩ := State.fieldFound?_setVm hvm h2
  exact ⟨c, k', i, f, a, cell, by rw [hvm.findClass]; exact h1, hi', h3, by rw [he]; exact h4, h5, h6, h7, h8, by rw [he]; exact h9, h10⟩
theorem vx_L.kept {C n d : String} {A : Nat → Prop} {U : State} {H H1 : Heap} (h : vx_L C n d A U H) (hq : ∀ a : Nat, a < H.size → ¬ A a → H1[a]? = H[a]?) : vx_L C n d A U H1 := by
  obtain ⟨c, k, i, f, a, cell, h1, h2, h3, h4, h5, h6, h7, h8, h9, h10⟩ := h
  exact ⟨c, k, i, f, a, cell, h1, h2, h3, h4, by rw [hq a (Array.getElem?_eq_some_iff.mp h5).1 h10]; exact h5, h6, h7, h8, h9, h10⟩
theorem vx_L.narrow {C n d : String} {A B : Nat → Prop} {U : State} {H : Heap} (h : vx_L C n d A U H) (hAB : ∀ q, B q → A q) : vx_L C n d B U H := by
  obtain ⟨c, k, i, f, a, cell, h1, h2, h3, h4, h5, h6, h7, h8, h9, h10⟩ := h
  exact ⟨c, k, i, f, a, cell, h1, h2, h3, h4, h5, h6, h7, h8, h9, fun z => h10 (hAB _ z)⟩
theorem vx_L.word {C n d : String} {A : Nat → Prop} {s : State} {args : Array Value} (h : vx_L C n d A s s.heap) : (Cond.laysStatic C n d).before args s = true := by
  obtain ⟨c, k, i, f, a, cell, h1, h2, h3, h4, h5, h6, h7, h8, h9, -⟩ := h
  show (Cond.laysStatic C n d).holds args s none s [] = true
  exact Cond.laysStatic_of h1 h2 h3 h4 h5 h6 h7 h8 h9
/-- .. and what it holds: null or some reference -/
def vx_Zq (C n d : String) (A : Nat → Prop) (U : State) (H : Heap) : Prop := va_Zq C n d A U H ∧ vx_L C n d A U H
theorem vx_Zq.moved {C n d : String} {A : Nat → Prop} {u U : State} {H : Heap} (hvm : u.vm.Alike U.vm) (h : vx_Zq C n d A u H) : vx_Zq C n d A U H := ⟨va_Zq.moved hvm h.1, vx_L.moved hvm h.2⟩
theorem vx_Zq.kept {C n d : String} {A : Nat → Prop} {U : State} {H H1 : Heap} (h : vx_Zq C n d A U H) (hq : ∀ a : Nat, a < H.size → ¬ A a → H1[a]? = H[a]?) : vx_Zq C n d A U H1 := ⟨va_Zq.kept h.1 hq, vx_L.kept h.2 hq⟩
theorem vx_Zq.narrow {C n d : String} {A B : Nat → Prop} {U : State} {H : Heap} (h : vx_Zq C n d A U H) (hAB : ∀ q, B q → A q) : vx_Zq C n d B U H := ⟨va_Zq.narrow h.1 hAB, vx_L.narrow h.2 hAB⟩
theorem vx_Zqof {args : Array Value} {s : State} {C n d : String} {A : Nat → Prop} (hl : (Cond.laysStatic C n d).before args s = true) (hini : (Cond.initialized C).before args s = true) (h : (Cond.isRef (.static C n d)).before args s = true) (hA : ∀ a : Nat, a < s.heap.size → ¬ A a) : vx_Zq C n d A s s.heap := by
  refine ⟨va_Zqof hl hini h hA, ?_⟩
  obtain ⟨c, k, i, f, a, cell, h1, h2, h3, h4, h5, h6, h7, h8, h9⟩ := Cond.laysStatic_spec hl
  exact ⟨c, k, i, f, a, cell, h1, h2, h3, h4, h5, h6, h7, h8, h9, hA a (Array.getElem?_eq_some_iff.mp h5).1⟩
theorem vx_isRef {C n d : String} {v : Value} {A : Nat → Prop} {s : State} {args : Array Value} (h : va_Z C n d v A s s.heap) (hv : v.isRef = true) : (Cond.isRef (.static C n d)).before args s = true := by
  obtain ⟨cf, kf, fi, f, a, cell, h1, h2, h3, h4, h5, h6, h7, -⟩ := h
  have he : (Term.static C n d).eval args s none [] s = some v := by
    simp [Term.eval, State.fieldNamed?, h1, h2, h4, h5, h6, h7]
  simp only [Cond.before, Cond.holds, Cond.value, he]
  cases v <;> simp_all [Value.isRef]
theorem vx_isRefq {C n d : String} {A : Nat → Prop} {s : State} {args : Array Value} (h : va_Zq C n d A s s.heap) : (Cond.isRef (.static C n d)).before args s = true := by
  rcases h with h | ⟨t, h⟩
  · exact vx_isRef h rfl
  · exact vx_isRef h rfl
/-- the same frame, seen from here: as if the method were called anew in this heap -/
theorem vx_rebase {T : State} (X : Stand p l e R s m args below meth c T locs cells slots) {R' : Room} (hf : R'.frames ≤ R.frames) (hl : R'.locals ≤ R.locals) (hc : cells + R'.cells ≤ R.cells) (hs : slots + R'.slots ≤ R.slots) :
    Stand p l e R' ((T.setVm s.vm).setFrames (.invoking m args :: below)) m args below meth c T [] 0 0 := by
  have htop : (T.setVm s.vm).topJava?.isSome := X.here.top
  have hF : ((T.setVm s.vm).setFrames (.invoking m args :: below)).frames = .invoking m args :: below := State.frames_setFrames _ (State.cur_lt_of_top htop)
  obtain ⟨g₀, hg0⟩ := Option.isSome_iff_exists.mp htop
  obtain ⟨r, hr⟩ := State.topJava?_eq_some.mp hg0
  have hl9 : e.platform.stackLimits (T.setVm s.vm).me = e.platform.stackLimits s.me := X.limits
  have hb9 : (T.setVm s.vm).me.stackBytes = s.me.stackBytes := X.bytes
  refine ⟨X.admits, X.cas, X.clock, hF, ?_, X.hears, X.method, X.code, X.here, X.tail, X.warmed, ?_, ?_, ?_⟩
  · have h := X.room
    have hU : ((T.setVm s.vm).setFrames (.invoking m args :: below)).localsInUse = s.localsInUse := by
      rw [State.localsInUse_invoking hF (meth := meth) (c := c) X.method X.code, State.localsInUse_invoking X.frames X.method X.code]
    simp only [State.hasRoom, Bool.and_eq_true, decide_eq_true_eq] at h ⊢
    obtain ⟨⟨⟨⟨h1, h2, h3, h4, h5, h6⟩, h7⟩, h8⟩, h9⟩ := h
    rw [X.frames, List.length_cons] at h2 h3
    have q1 := X.heapSize
    have q2 := X.used
    simp only [hF, hU, List.length_cons, State.stackLimits_setFrames, State.stackBytes_setFrames, hl9, hb9]
    refine ⟨⟨⟨⟨by omega, by omega, by omega, by omega, by omega, h6⟩, ?_⟩, ?_⟩, X.book⟩
    · show T.heap.size + R'.cells ≤ e.platform.maxCells
      omega
    · show T.slotsUsed + R'.slots ≤ e.platform.maxSlots
      omega
  · rw [State.stackLimits_setFrames]; rfl
  · rw [State.stackBytes_setFrames]; rfl
  · refine ⟨?_, Nat.le_refl _, Nat.le_refl _, ?_, ?_, fun a c9 h9 => ⟨c9, h9, rfl, rfl, fun _ _ => rfl⟩⟩
    · obtain ⟨t, ht, -⟩ := State.frames_cons hr
      show T.setVm s.vm = { ((T.setVm s.vm).setFrames (.invoking m args :: below)).setFrames (T.setVm s.vm).frames with heap := T.heap, slotsUsed := T.slotsUsed }
      rw [State.setFrames_setFrames, State.setFrames_self ht]
      rfl
    · show T.slotsUsed = T.slotsUsed + ((T.heap.toList.drop T.heap.size).map (·.slots.size)).sum
      rw [List.drop_eq_nil_of_le (Nat.le_of_eq Array.length_toList)]
      rfl
    · show ((T.heap.toList.drop T.heap.size).map (·.slots.size)).sum ≤ 0
      rw [List.drop_eq_nil_of_le (Nat.le_of_eq Array.length_toList)]
      exact Nat.le_refl _
/-- 'throw new E()': new; dup; invokespecial; athrow -/
theorem vx_throw0 {cc : ByteArray} {pc : Nat} (hexec : p.tables.exec = Jvm.exec) (hb : c.code = cc) (hl : l.stackTraces = false) {own cls : String} {names : List String} {ik ic mc ms : Nat} {A : Nat → Prop}
    (hown : s.vm.findClass own = some m.cls) (hcls : Bundle.fit cls = true) (hnames : ∀ n ∈ names, Bundle.fit n = true)
    (hk : (Cond.classLink own ik cls).before args s = true) (hini : (Cond.initialized cls).before args s = true) (hat : ∀ w ∈ vx_at0 own ic cls names, w.before args s = true)
    (hgood : ∀ w ∈ Cond.classLink own ik cls :: Cond.initialized cls :: vx_at0 own ic cls names, vx_ot w = true)
    (hU : vx_Zq Bundle.tN "UNASSIGNED_STACK" Bundle.steD A s s.heap) (hN : vx_Zq Bundle.tN "SUPPRESSED_SENTINEL" Bundle.listD A s s.heap) (hS : va_S A s.heap H locs) (hsize : ls.size = c.maxLocals)
    (d0 : decode cc pc = .ok (.new ik, 3)) (d3 : decode cc (pc + 3) = .ok (.dup, 1)) (d4 : decode cc (pc + 4) = .ok (.invokespecial ic, 3)) (d7 : decode cc (pc + 7) = .ok (.athrow, 1))
    (hout : ∀ x ∈ c.exceptionTable.toList, covers x (pc + 7) = false)
    (hRframes : names.length + 3 < R.frames) (hRlocals : (rest.map fun v => v.category).sum + (13 * (names.length + 1) + 42) ≤ R.locals) (hRcells : cells + 1 ≤ R.cells) (hRslots : slots + 6 ≤ R.slots) (hlocks : meth.locks = false)
    (hx : ∀ t : State, s.vm.Alike t.vm → H.size ≤ t.heap.size → (∀ q : Nat, q < H.size → t.heap[q]? = H[q]?) → XC cls s t)
    (hf : ∀ z ∈ locs, free z.base) (hc : cells + 1 ≤ mc) (hs : slots + 6 ≤ ms) :
    W p l e R s m args below meth c H locs cells slots (vx_MQ below Qc XC args s mc ms free) (F0 m pc ls rest) := by
  intro T hT X
  have htr : e.platform.stackTraces = false := (show e.platform.stackTraces = l.stackTraces by rw [X.admits.platform]).trans hl
  have Y := vx_rebase X (R' := { frames := R.frames, locals := R.locals, cells := 1, slots := 6 }) (Nat.le_refl _) (Nat.le_refl _) hRcells hRslots
  obtain ⟨s', hA⟩ : ∃ z, z = (T.setVm s.vm).setFrames (.invoking m args :: below) := ⟨_, rfl⟩
  rw [← hA] at Y
  have hvm : s'.vm = s.vm := by rw [hA]; rfl
  have hhp : s'.heap = H := by rw [hA]; exact hT
  have hW0 : s.WarmedH s'.vm := by rw [hvm]; exact State.WarmedH.refl s
  have hat' : ∀ w ∈ vx_at0 own ic cls names, w.before args s' = true := fun w hw => vx_ot_at hW0 hvm.symm (hgood w (List.mem_cons_of_mem _ (List.mem_cons_of_mem _ hw))) (hat w hw)
  have hk' : (Cond.classLink own ik cls).before args s' = true := vx_ot_at hW0 hvm.symm (hgood _ List.mem_cons_self) hk
  have hini' : (Cond.initialized cls).before args s' = true := vx_ot_at hW0 hvm.symm (hgood _ (List.mem_cons_of_mem _ List.mem_cons_self)) hini
  have hU' : vx_Zq Bundle.tN "UNASSIGNED_STACK" Bundle.steD A s' s'.heap := by rw [hhp]; exact vx_Zq.moved hW0.alike (hU.kept hS.2.1)
  have hN' : vx_Zq Bundle.tN "SUPPRESSED_SENTINEL" Bundle.listD A s' s'.heap := by rw [hhp]; exact vx_Zq.moved hW0.alike (hN.kept hS.2.1)
  have h : ∀ w ∈ Bundle.ownAtoms0 own ic cls names, w.before args s' = true := vx_own hat' (vx_isRefq hU'.1) (vx_isRefq hN'.1) hU'.2.word hN'.2.word
  have hown' : s'.vm.findClass own = some m.cls := by rw [hvm]; exact hown
  have hins : (Cond.instantiable cls 6).before args s' = true := h _ (by simp [Bundle.ownAtoms0])
  obtain ⟨vm₁, cX, kX, hfX, hkX, -, -, X₁, st1⟩ := Y.newCold hexec (own := own) (C := cls) (index := ik) (n := 6) hown' hk' hins hini'
    (g := F0 m pc ls rest) rfl (by rw [hb]; exact d0) (Nat.le_refl _) (Nat.le_refl _)
  generalize hT1 : (T.setVm vm₁).pushCell { cls := cX, slots := kX.instanceTypes.map defaultValue, vm := .none } = T1 at X₁ st1
  have hcat : (Value.ref T.heap.size).category = 1 := rfl
  have hcellA : T1.heap[T.heap.size]? = some (freshCell cX kX) := by rw [← hT1]; exact State.heap_pushCell_size _ _
  have d3' : decode c.code (pc + 3) = .ok (.dup, 1) := by rw [hb]; exact d3
  obtain ⟨U, hsteps, hrun, hend, hW, hsame, ce, hce, hO⟩ := X₁.ctorThrow0 hexec htr (own := own) (cls := cls) (names := names) (ic := ic) hown' hcls hnames h (fun x hx => nomatch hx) hfX hkX hcellA (by rw [hhp, hT]; exact Nat.le_refl _)
    (g := { method := m, pc := pc + 4, locals := ls, stack := .ref T.heap.size :: .ref T.heap.size :: rest, locked := none }) rfl hsize rfl rfl (rest := rest) rfl
    (by rw [hb]; exact d4) (by rw [hb]; exact d7) hout hRframes (by simp only [List.map_cons, List.sum_cons, hcat]; omega) hlocks
  obtain ⟨f1, f2⟩ := vx_frame hsame
  rw [hhp] at f1 f2
  have hWs : s.WarmedH U.vm := State.WarmedH.trans hW0 hW
  have hcl : s.vm.findClass cls = some ce.cls := by
    have h9 := hO.cls
    rw [hvm] at h9
    exact h9
  have hall : s.sameButNew ({ U with vm := s.vm } : State) locs mc ms := by
    subst hA
    obtain ⟨e1, e2⟩ := hsame
    rw [State.setFrames_setFrames] at e1
    have h2 : (T.setVm s.vm).sameButNew ({ U with vm := s.vm } : State) [] (0 + 1) (0 + 6) := ⟨e1, e2⟩
    have h3 := X.same.trans h2
    rw [List.append_nil] at h3
    exact h3.mono hc hs
  refine ⟨U, ?_, .threw T.heap.size, hrun, hend, Or.inr ⟨T.heap.size, rfl, cls, ce, locs, hx U hWs.alike f1 (fun q hq => f2 q hq (fun z hz => nomatch hz)), hce, hO.vm, hcl, hWs, hall, hf⟩⟩
  refine st1 _ ?_
  show Steps p.tables e below (T1.setTop { method := m, pc := pc + 3, locals := ls, stack := .ref T.heap.size :: rest, locked := none }) _
  jvm_step X₁.here [X₁.here.top, hexec, d3', Value.category]
  exact hsteps
/-- 'throw new E("text")': new; dup; ldc; invokespecial; athrow -/
theorem vx_throwS {cc : ByteArray} {pc : Nat} (hexec : p.tables.exec = Jvm.exec) (hb : c.code = cc) (hl : l.stackTraces = false) {own cls text : String} {names : List String} {ik is ic mc ms sa : Nat} {A : Nat → Prop}
    (hown : s.vm.findClass own = some m.cls) (hcls : Bundle.fit cls = true) (hnames : ∀ n ∈ names, Bundle.fit n = true)
    (hk : (Cond.classLink own ik cls).before args s = true) (hini : (Cond.initialized cls).before args s = true) (hstr : vk_R own is text sa s) (hat : ∀ w ∈ vx_atS own ic cls names, w.before args s = true)
    (hgood : ∀ w ∈ Cond.classLink own ik cls :: Cond.initialized cls :: vx_atS own ic cls names, vx_ot w = true)
    (hU : vx_Zq Bundle.tN "UNASSIGNED_STACK" Bundle.steD A s s.heap) (hN : vx_Zq Bundle.tN "SUPPRESSED_SENTINEL" Bundle.listD A s s.heap) (hS : va_S A s.heap H locs) (hsize : ls.size = c.maxLocals)
    (d0 : decode cc pc = .ok (.new ik, 3)) (d3 : decode cc (pc + 3) = .ok (.dup, 1)) (d4 : decode cc (pc + 4) = .ok (.ldc is, 2)) (d6 : decode cc (pc + 6) = .ok (.invokespecial ic, 3)) (d9 : decode cc (pc + 9) = .ok (.athrow, 1))
    (hout : ∀ x ∈ c.exceptionTable.toList, covers x (pc + 9) = false)
    (hRframes : names.length + 3 < R.frames) (hRlocals : (rest.map fun v => v.category).sum + (13 * (names.length + 1) + 43) ≤ R.locals) (hRcells : cells + 1 ≤ R.cells) (hRslots : slots + 6 ≤ R.slots) (hlocks : meth.locks = false)
    (hx : ∀ t : State, s.vm.Alike t.vm → H.size ≤ t.heap.size → (∀ q : Nat, q < H.size → t.heap[q]? = H[q]?) → XC cls s t)
    (hf : ∀ z ∈ locs, free z.base) (hc : cells + 1 ≤ mc) (hs : slots + 6 ≤ ms) :
    W p l e R s m args below meth c H locs cells slots (vx_MQ below Qc XC args s mc ms free) (F0 m pc ls rest) := by
  intro T hT X
  have htr : e.platform.stackTraces = false := (show e.platform.stackTraces = l.stackTraces by rw [X.admits.platform]).trans hl
  have Y := vx_rebase X (R' := { frames := R.frames, locals := R.locals, cells := 1, slots := 6 }) (Nat.le_refl _) (Nat.le_refl _) hRcells hRslots
  obtain ⟨s', hA⟩ : ∃ z, z = (T.setVm s.vm).setFrames (.invoking m args :: below) := ⟨_, rfl⟩
  rw [← hA] at Y
  have hvm : s'.vm = s.vm := by rw [hA]; rfl
  have hhp : s'.heap = H := by rw [hA]; exact hT
  have hW0 : s.WarmedH s'.vm := by rw [hvm]; exact State.WarmedH.refl s
  have hat' : ∀ w ∈ vx_atS own ic cls names, w.before args s' = true := fun w hw => vx_ot_at hW0 hvm.symm (hgood w (List.mem_cons_of_mem _ (List.mem_cons_of_mem _ hw))) (hat w hw)
  have hk' : (Cond.classLink own ik cls).before args s' = true := vx_ot_at hW0 hvm.symm (hgood _ List.mem_cons_self) hk
  have hini' : (Cond.initialized cls).before args s' = true := vx_ot_at hW0 hvm.symm (hgood _ (List.mem_cons_of_mem _ List.mem_cons_self)) hini
  have hU' : vx_Zq Bundle.tN "UNASSIGNED_STACK" Bundle.steD A s' s'.heap := by rw [hhp]; exact vx_Zq.moved hW0.alike (hU.kept hS.2.1)
  have hN' : vx_Zq Bundle.tN "SUPPRESSED_SENTINEL" Bundle.listD A s' s'.heap := by rw [hhp]; exact vx_Zq.moved hW0.alike (hN.kept hS.2.1)
  have h : ∀ w ∈ Bundle.ownAtoms own ic cls names, w.before args s' = true := vx_own hat' (vx_isRefq hU'.1) (vx_isRefq hN'.1) hU'.2.word hN'.2.word
  have hown' : s'.vm.findClass own = some m.cls := by rw [hvm]; exact hown
  have hins : (Cond.instantiable cls 6).before args s' = true := h _ (by simp [Bundle.ownAtoms])
  obtain ⟨vm₁, cX, kX, hfX, hkX, -, -, X₁, st1⟩ := Y.newCold hexec (own := own) (C := cls) (index := ik) (n := 6) hown' hk' hins hini'
    (g := F0 m pc ls rest) rfl (by rw [hb]; exact d0) (Nat.le_refl _) (Nat.le_refl _)
  generalize hT1 : (T.setVm vm₁).pushCell { cls := cX, slots := kX.instanceTypes.map defaultValue, vm := .none } = T1 at X₁ st1
  have hcat : (Value.ref T.heap.size).category = 1 := rfl
  have hcellA : T1.heap[T.heap.size]? = some (freshCell cX kX) := by rw [← hT1]; exact State.heap_pushCell_size _ _
  have d3' : decode c.code (pc + 3) = .ok (.dup, 1) := by rw [hb]; exact d3
  have d4' : decode c.code (pc + 4) = .ok (.ldc is, 2) := by rw [hb]; exact d4
  have hstr' : vk_R own is text sa s' := vk_R.warm hW0 hstr
  obtain ⟨U, hsteps, hrun, hend, hW, hsame, ce, hce, hO⟩ := X₁.ctorThrowS hexec htr (own := own) (cls := cls) (names := names) (ic := ic) hown' hcls hnames h (fun x hx => nomatch hx) hfX hkX hcellA (by rw [hhp, hT]; exact Nat.le_refl _) (msg := .ref sa) rfl
    (g := { method := m, pc := pc + 6, locals := ls, stack := .ref sa :: .ref T.heap.size :: .ref T.heap.size :: rest, locked := none }) rfl hsize rfl rfl (rest := rest) rfl
    (by rw [hb]; exact d6) (by rw [hb]; exact d9) hout hRframes (by simp only [List.map_cons, List.sum_cons, hcat]; omega) hlocks
  obtain ⟨f1, f2⟩ := vx_frame hsame
  rw [hhp] at f1 f2
  have hWs : s.WarmedH U.vm := State.WarmedH.trans hW0 hW
  have hcl : s.vm.findClass cls = some ce.cls := by
    have h9 := hO.cls
    rw [hvm] at h9
    exact h9
  have hall : s.sameButNew ({ U with vm := s.vm } : State) locs mc ms := by
    subst hA
    obtain ⟨e1, e2⟩ := hsame
    rw [State.setFrames_setFrames] at e1
    have h2 : (T.setVm s.vm).sameButNew ({ U with vm := s.vm } : State) [] (0 + 1) (0 + 6) := ⟨e1, e2⟩
    have h3 := X.same.trans h2
    rw [List.append_nil] at h3
    exact h3.mono hc hs
  refine ⟨U, ?_, .threw T.heap.size, hrun, hend, Or.inr ⟨T.heap.size, rfl, cls, ce, locs, hx U hWs.alike f1 (fun q hq => f2 q hq (fun z hz => nomatch hz)), hce, hO.vm, hcl, hWs, hall, hf⟩⟩
  refine st1 _ ?_
  show Steps p.tables e below (T1.setTop { method := m, pc := pc + 3, locals := ls, stack := .ref T.heap.size :: rest, locked := none }) _
  jvm_step X₁.here [X₁.here.top, hexec, d3', Value.category]
  exact X₁.ldcString hexec (own := own) (text := text) (index := is) (a := sa) hown' hstr'.1 hstr'.2
    (g := { method := m, pc := pc + 4, locals := ls, stack := .ref T.heap.size :: .ref T.heap.size :: rest, locked := none }) rfl d4' _ hsteps
/-- 'throw new E("text")', the text by a wide index -/
theorem vx_throwSW {cc : ByteArray} {pc : Nat} (hexec : p.tables.exec = Jvm.exec) (hb : c.code = cc) (hl : l.stackTraces = false) {own cls text : String} {names : List String} {ik is ic mc ms sa : Nat} {A : Nat → Prop}
    (hown : s.vm.findClass own = some m.cls) (hcls : Bundle.fit cls = true) (hnames : ∀ n ∈ names, Bundle.fit n = true)
    (hk : (Cond.classLink own ik cls).before args s = true) (hini : (Cond.initialized cls).before args s = true) (hstr : vk_R own is text sa s) (hat : ∀ w ∈ vx_atS own ic cls names, w.before args s = true)
    (hgood : ∀ w ∈ Cond.classLink own ik cls :: Cond.initialized cls :: vx_atS own ic cls names, vx_ot w = true)
    (hU : vx_Zq Bundle.tN "UNASSIGNED_STACK" Bundle.steD A s s.heap) (hN : vx_Zq Bundle.tN "SUPPRESSED_SENTINEL" Bundle.listD A s s.heap) (hS : va_S A s.heap H locs) (hsize : ls.size = c.maxLocals)
    (d0 : decode cc pc = .ok (.new ik, 3)) (d3 : decode cc (pc + 3) = .ok (.dup, 1)) (d4 : decode cc (pc + 4) = .ok (.ldc_w is, 3)) (d7 : decode cc (pc + 7) = .ok (.invokespecial ic, 3)) (d10 : decode cc (pc + 10) = .ok (.athrow, 1))
    (hout : ∀ x ∈ c.exceptionTable.toList, covers x (pc + 10) = false)
    (hRframes : names.length + 3 < R.frames) (hRlocals : (rest.map fun v => v.category).sum + (13 * (names.length + 1) + 43) ≤ R.locals) (hRcells : cells + 1 ≤ R.cells) (hRslots : slots + 6 ≤ R.slots) (hlocks : meth.locks = false)
    (hx : ∀ t : State, s.vm.Alike t.vm → H.size ≤ t.heap.size → (∀ q : Nat, q < H.size → t.heap[q]? = H[q]?) → XC cls s t)
    (hf : ∀ z ∈ locs, free z.base) (hc : cells + 1 ≤ mc) (hs : slots + 6 ≤ ms) :
    W p l e R s m args below meth c H locs cells slots (vx_MQ below Qc XC args s mc ms free) (F0 m pc ls rest) := by
  intro T hT X
  have htr : e.platform.stackTraces = false := (show e.platform.stackTraces = l.stackTraces by rw [X.admits.platform]).trans hl
  have Y := vx_rebase X (R' := { frames := R.frames, locals := R.locals, cells := 1, slots := 6 }) (Nat.le_refl _) (Nat.le_refl _) hRcells hRslots
  obtain ⟨s', hA⟩ : ∃ z, z = (T.setVm s.vm).setFrames (.invoking m args :: below) := ⟨_, rfl⟩
  rw [← hA] at Y
  have hvm : s'.vm = s.vm := by rw [hA]; rfl
  have hhp : s'.heap = H := by rw [hA]; exact hT
  have hW0 : s.WarmedH s'.vm := by rw [hvm]; exact State.WarmedH.refl s
  have hat' : ∀ w ∈ vx_atS own ic cls names, w.before args s' = true := fun w hw => vx_ot_at hW0 hvm.symm (hgood w (List.mem_cons_of_mem _ (List.mem_cons_of_mem _ hw))) (hat w hw)
  have hk' : (Cond.classLink own ik cls).before args s' = true := vx_ot_at hW0 hvm.symm (hgood _ List.mem_cons_self) hk
  have hini' : (Cond.initialized cls).before args s' = true := vx_ot_at hW0 hvm.symm (hgood _ (List.mem_cons_of_mem _ List.mem_cons_self)) hini
  have hU' : vx_Zq Bundle.tN "UNASSIGNED_STACK" Bundle.steD A s' s'.heap := by rw [hhp]; exact vx_Zq.moved hW0.alike (hU.kept hS.2.1)
  have hN' : vx_Zq Bundle.tN "SUPPRESSED_SENTINEL" Bundle.listD A s' s'.heap := by rw [hhp]; exact vx_Zq.moved hW0.alike (hN.kept hS.2.1)
  have h : ∀ w ∈ Bundle.ownAtoms own ic cls names, w.before args s' = true := vx_own hat' (vx_isRefq hU'.1) (vx_isRefq hN'.1) hU'.2.word hN'.2.word
  have hown' : s'.vm.findClass own = some m.cls := by rw [hvm]; exact hown
  have hins : (Cond.instantiable cls 6).before args s' = true := h _ (by simp [Bundle.ownAtoms])
  obtain ⟨vm₁, cX, kX, hfX, hkX, -, -, X₁, st1⟩ := Y.newCold hexec (own := own) (C := cls) (index := ik) (n := 6) hown' hk' hins hini'
    (g := F0 m pc ls rest) rfl (by rw [hb]; exact d0) (Nat.le_refl _) (Nat.le_refl _)
  generalize hT1 : (T.setVm vm₁).pushCell { cls := cX, slots := kX.instanceTypes.map defaultValue, vm := .none } = T1 at X₁ st1
  have hcat : (Value.ref T.heap.size).category = 1 := rfl
  have hcellA : T1.heap[T.heap.size]? = some (freshCell cX kX) := by rw [← hT1]; exact State.heap_pushCell_size _ _
  have d3' : decode c.code (pc + 3) = .ok (.dup, 1) := by rw [hb]; exact d3
  have d4' : decode c.code (pc + 4) = .ok (.ldc_w is, 3) := by rw [hb]; exact d4
  have hstr' : vk_R own is text sa s' := vk_R.warm hW0 hstr
  obtain ⟨U, hsteps, hrun, hend, hW, hsame, ce, hce, hO⟩ := X₁.ctorThrowS hexec htr (own := own) (cls := cls) (names := names) (ic := ic) hown' hcls hnames h (fun x hx => nomatch hx) hfX hkX hcellA (by rw [hhp, hT]; exact Nat.le_refl _) (msg := .ref sa) rfl
    (g := { method := m, pc := pc + 7, locals := ls, stack := .ref sa :: .ref T.heap.size :: .ref T.heap.size :: rest, locked := none }) rfl hsize rfl rfl (rest := rest) rfl
    (by rw [hb]; exact d7) (by rw [hb]; exact d10) hout hRframes (by simp only [List.map_cons, List.sum_cons, hcat]; omega) hlocks
  obtain ⟨f1, f2⟩ := vx_frame hsame
  rw [hhp] at f1 f2
  have hWs : s.WarmedH U.vm := State.WarmedH.trans hW0 hW
  have hcl : s.vm.findClass cls = some ce.cls := by
    have h9 := hO.cls
    rw [hvm] at h9
    exact h9
  have hall : s.sameButNew ({ U with vm := s.vm } : State) locs mc ms := by
    subst hA
    obtain ⟨e1, e2⟩ := hsame
    rw [State.setFrames_setFrames] at e1
    have h2 : (T.setVm s.vm).sameButNew ({ U with vm := s.vm } : State) [] (0 + 1) (0 + 6) := ⟨e1, e2⟩
    have h3 := X.same.trans h2
    rw [List.append_nil] at h3
    exact h3.mono hc hs
  refine ⟨U, ?_, .threw T.heap.size, hrun, hend, Or.inr ⟨T.heap.size, rfl, cls, ce, locs, hx U hWs.alike f1 (fun q hq => f2 q hq (fun z hz => nomatch hz)), hce, hO.vm, hcl, hWs, hall, hf⟩⟩
  refine st1 _ ?_
  show Steps p.tables e below (T1.setTop { method := m, pc := pc + 3, locals := ls, stack := .ref T.heap.size :: rest, locked := none }) _
  jvm_step X₁.here [X₁.here.top, hexec, d3', Value.category]
  exact X₁.ldcStringW hexec (own := own) (text := text) (index := is) (a := sa) hown' hstr'.1 hstr'.2
    (g := { method := m, pc := pc + 4, locals := ls, stack := .ref T.heap.size :: .ref T.heap.size :: rest, locked := none }) rfl d4' _ hsteps
end Ends
section Bodies
variable {l : Launch}
theorem vx_ofW {y : MethodName} {ws ws' : List Cond} {rm : Room} {Pc : Array Value → State → Prop} {Qc : Array Value → State → Outcome → State → Prop} {XC : String → State → State → Prop} {mc ms : Nat} {free : Addr → Prop} {cc : ByteArray} {maxL : Nat} {ret : Option FieldType}
    (hy : plainName y.cls = true) (hw : ws = Cond.code y cc maxL ret :: ws')
    (body : ∀ p e s m args below meth c s₁, BodyLoose p l y (headSpec ws rm) cc maxL ret e s m args below meth c s₁ → c.maxLocals = maxL → (∀ x ∈ c.exceptionTable.toList, False) → Pc args s →
      W p l e (headSpec ws rm).room s m args below meth c s.heap [] 0 0 (vx_MQ below Qc XC args s mc ms free) (entryFrame m args maxL)) : vx_Met l y ws rm Pc Qc XC mc ms free := by
  refine MetFree.of_bodyS (code := cc) (maxLocals := maxL) (ret := ret) hy ?_ ?_
  · intro args s m h hn
    obtain ⟨meth, c, h1, h2, h3, h4, h5, h6, -, -⟩ := Cond.code_spec hn (atoms_spec (ws := ws) h _ (by rw [hw]; exact List.mem_cons_self))
    exact ⟨meth, c, h1, h2, h3, h4, h5, h6⟩
  · intro p e s m args below meth c s₁ B hml hP _
    have hh0 : s₁.heap = s.heap := by rw [B.state]; rfl
    have ht : ∀ x ∈ c.exceptionTable.toList, False := by
      obtain ⟨meth9, c9, h1, h2, -, -, -, -, h7, -⟩ := Cond.code_spec B.named (atoms_spec (ws := ws) B.pre _ (by rw [hw]; exact List.mem_cons_self))
      cases Option.some.inj (h1.symm.trans B.method)
      cases Option.some.inj (h2.symm.trans (Stand.of_body B).code)
      intro x hx
      rw [Array.isEmpty_iff.mp h7] at hx
      cases hx
    obtain ⟨t, a1, o, b1, b2, b3⟩ := body p e s m args below meth c s₁ B hml ht hP s₁ hh0 (Stand.of_body B)
    exact ⟨t, o, a1, b1, b2, b3⟩
/-- the table of a body with handlers -/
theorem vx_table {p : Program} {x y : MethodName} {S : Spec} {cc bytes : ByteArray} {maxL maxL' : Nat} {ret ret' : Option FieldType} {e : Env} {s s₁ : State} {m : MethodId} {args : Array Value} {below : List Frame} {meth : Method} {c : Code} {hh : List (Nat × Nat × Nat × Nat)}
    (B : BodyLoose p l y S cc maxL ret e s m args below meth c s₁) (h : (Cond.codeWith y bytes maxL' ret' hh).before args s = true) : c.exceptionTable.toList = tableOf hh := by
  obtain ⟨m9, meth9, c9, hn9, h1, h2, -, -, h6, -⟩ := Cond.codeWith_spec h
  cases Option.some.inj (hn9.symm.trans B.named)
  cases Option.some.inj (h1.symm.trans B.method)
  cases Option.some.inj (h2.symm.trans (Stand.of_body B).code)
  rw [← h6, table_eq]
end Bodies
end VXA
/-! ===== END ===== -/
/-! ===== BEGIN a static call of a method with an exception table ===== -/
section VXS
variable {p : Program} {l : Launch} {e : Env} {R : Room} {s : State} {m : MethodId} {args : Array Value} {below : List Frame} {meth : Method} {c : Code} {T : State} {H : Heap} {locs : List Loc} {cells slots : Nat}
abbrev vx_CSW (R : Room) (s : State) (args : Array Value) (own : String) (index : Nat) (y : MethodName) (bytes : ByteArray) (maxL : Nat) (ret : Option FieldType) (hh : List (Nat × Nat × Nat × Nat)) (ws : List Cond) (rm : Room) (mc ms n : Nat) : Prop :=
  (rm.cells = mc ∧ rm.slots = ms ∧ rm.frames + 1 ≤ R.frames ∧ 8 + (maxL + 11) + rm.locals ≤ R.locals ∧ (∀ w ∈ ws, ∀ (a' : Array Value) (U : State), s.WarmedH U.vm → w.before a' U = true) ∧ Cond.codeWith y bytes maxL ret hh ∈ ws) ∧
  (Cond.codeWith y bytes maxL ret hh).before args s = true ∧ (Cond.initialized y.cls).before args s = true ∧ (y.cls ≠ "java/lang/invoke/MethodHandle" ∧ y.cls ≠ "java/lang/invoke/VarHandle") ∧
  (∀ sig, parseMethodDescriptor y.desc = some sig → n = sig.parameters.length) ∧ (Cond.methodLink own index y).before args s = true ∧ (Cond.static y).before args s = true
theorem vx_cwSW {own : String} {index maxL mc ms : Nat} {y : MethodName} {bytes : ByteArray} {ret : Option FieldType} {hh : List (Nat × Nat × Nat × Nat)} {Ts ws ws' : List Cond} {rm : Room} (n : Nat) (ht : ∀ w ∈ Ts, w.before args s = true) (hT : GoodIn Ts (va_wsS own index y ws)) (hw : ws = Cond.codeWith y bytes maxL ret hh :: ws') (hrc : rm.cells = mc) (hrs : rm.slots = ms)
    (hd : y.cls ≠ "java/lang/invoke/MethodHandle" ∧ y.cls ≠ "java/lang/invoke/VarHandle" ∧ (parseMethodDescriptor y.desc).map (fun d => d.parameters.length) = some n) (hR : rm.frames + 1 ≤ R.frames ∧ 8 + (maxL + 11) + rm.locals ≤ R.locals) :
    vx_CSW R s args own index y bytes maxL ret hh ws rm mc ms n := by
  have ok : ∀ w ∈ va_wsS own index y ws, w.before args s = true := fun w h => ht w (hT w h).1
  have hG : GoodIn Ts ws := fun w h => hT w (by unfold va_wsS; exact List.mem_append_right _ h)
  have hc : Cond.codeWith y bytes maxL ret hh ∈ ws := by rw [hw]; exact List.mem_cons_self
  refine ⟨⟨hrc, hrs, hR.1, hR.2, pay_in ht hG, hc⟩, ht _ (hG _ hc).1, ok _ (by simp [va_wsS]), ⟨hd.1, hd.2.1⟩, fun sig h => ?_, ok _ (by simp [va_wsS]), ok _ (by simp [va_wsS])⟩
  have h2 := hd.2.2
  rw [h] at h2
  exact (Option.some.inj h2).symm
theorem vx_callSW (X : Stand p l e R s m args below meth c T locs cells slots) (hexec : p.tables.exec = Jvm.exec) {own : String} {index : Nat} {y : MethodName} {bytes : ByteArray} {maxL : Nat} {ret : Option FieldType} {hh : List (Nat × Nat × Nat × Nat)}
    (hown : s.vm.findClass own = some m.cls) (hlink : (Cond.methodLink own index y).before args s = true) (hstat : (Cond.static y).before args s = true) (hinit : (Cond.initialized y.cls).before args s = true)
    (hcode : (Cond.codeWith y bytes maxL ret hh).before args s = true) (hy : y.cls ≠ "java/lang/invoke/MethodHandle" ∧ y.cls ≠ "java/lang/invoke/VarHandle")
    {W9 : Nat} {Pre : Pt → Array Value → Prop} {Post : Pt → Array Value → Option Value → Pt → Prop} (hK : Back l R p e below s args y 3 W9 Pre Post)
    {g : JFrame} (hg : g.method = m) (hsize : g.locals.size = c.maxLocals) {argsL rest : List Value} (hlen : ∀ sig, parseMethodDescriptor y.desc = some sig → argsL.length = sig.parameters.length)
    (hstack : g.stack = argsL.reverse ++ rest) (hW : 2 * g.monitorRoom + (rest.map fun v => v.category).sum ≤ W9) (hdg : decode c.code g.pc = .ok (.invokestatic index, 3))
    (hpre : ∀ vm₁, s.WarmedH vm₁ → Pre ⟨T.setVm vm₁, locs, cells, slots⟩ argsL.toArray) :
    ∃ (v : Option Value) (vm₁ : Vm) (B : Pt), s.WarmedH vm₁ ∧ Stand p l e R s m args below meth c B.U B.locs B.cells B.slots ∧ Post ⟨T.setVm vm₁, locs, cells, slots⟩ argsL.toArray v B ∧
      ∀ target, Steps p.tables e below (B.U.setTop { g with pc := g.pc + 3, stack := v.toList ++ rest }) target → Steps p.tables e below (T.setTop g) target := by
  obtain ⟨mk, methM, cM, hnamed, hmethM, -, -, -, -, -, -, hsigM⟩ := Cond.codeWith_spec hcode
  have hstatic : methM.isStatic = true := Cond.static_spec hnamed hmethM hstat
  obtain ⟨kP, hkP, -⟩ := className_of_methodNamed hnamed
  have hinitP : kP.init = .initialized := Cond.initialized_spec (findClass_of_methodNamed hnamed) hkP hinit
  obtain ⟨vm₁, X₁, hstep₁⟩ := X.invokestatic hexec hown hlink hnamed hmethM hstatic hkP hinitP hy (g := g) hg (argsL := argsL) (rest := rest) (hlen _ hsigM) hstack hdg
  obtain ⟨v, B, X', hpost, hsteps⟩ := hK m meth c ⟨T.setVm vm₁, locs, cells, slots⟩ { g with stack := rest } (.invokestatic index) mk argsL.toArray X₁ hg hsize hdg hW (X₁.named hnamed) (hpre vm₁ X₁.warmed)
  exact ⟨v, vm₁, B, X₁.warmed, X', hpost, fun target h => hstep₁ _ fun acts => by rw [doInvoke_state]; exact hsteps.trans h⟩
theorem vx_runSW {y : MethodName} {bytes cc : ByteArray} {maxL nL mc ms n index : Nat} {ret : Option FieldType} {hh : List (Nat × Nat × Nat × Nat)} {ws : List Cond} {rm : Room} {Pc : Array Value → State → Prop} {Qc : Array Value → State → Outcome → State → Prop} {free : Addr → Prop} {Ts : List Cond} {own : String} {As rest : List Value} {g : JFrame}
    (S : CallFix p m c cc nL s args Ts own) (hM : Met l y ws rm Pc Qc mc ms free) (cw : vx_CSW R s args own index y bytes maxL ret hh ws rm mc ms n) (hp : PreS s H Pc As)
    (hg : g.method = m) (hn : As.length = n) (hsize : g.locals.size = nL) (hstack : g.stack = As.reverse ++ rest) (hW : 2 * g.monitorRoom + (rest.map fun v => v.category).sum ≤ 8) (hdg : decode cc g.pc = .ok (.invokestatic index, 3)) (hf : cells + mc ≤ R.cells ∧ slots + ms ≤ R.slots) :
    va_Run p l e R s m args below meth c H locs cells slots mc ms g rest (Qc As.toArray) (free) := by
  obtain ⟨⟨hrc, hrs, hfr, hlo, hws, hcw⟩, hcode, hini, hy, hlen, hl, hstt⟩ := cw
  have hK : Back l R p e below s args y 3 8 (PreOf R mc ms Pc) (PostOf Qc mc ms free) := va_backW (hh := hh) (bytes := bytes) (maxL := maxL) (ret := ret) hM hp.1 hrc hrs hfr hlo hws hcw (fun a' U hW => word_at hW (Or.inl (by first | rfl | simp [Cond.onTables, Cond.keeps, Cond.steady])) hini)
  obtain ⟨hx, hb, hml, ho, -⟩ := S
  intro T hT X
  obtain ⟨v, vm₁, ⟨U', l2, c2, s2⟩, hW₁, X', ⟨g', mk, t, L, e1, e2, hq, h1, hL, h2, h3⟩, st⟩ := vx_callSW X hx (hh := hh) (bytes := bytes) (maxL := maxL) (ret := ret) ho hl hstt hini hcode hy hK hg (hsize.trans hml.symm) (argsL := As) (rest := rest) (fun sig h => hn.trans (hlen sig h)) hstack hW (by rw [hb]; exact hdg)
    (fun vm₁ hW₁ => ⟨hf.1, hf.2, hp.2 (T.setVm vm₁) hT hW₁⟩)
  dsimp only [Pt.U, Pt.locs, Pt.cells, Pt.slots] at X' e1 e2 h1 h2 h3 st
  subst h1; subst h2; subst h3
  exact ⟨v, (T.setVm vm₁).calling g' mk As.toArray, t, U', L, hT, X', hL, e1, e2, hq, st⟩
/-- not caught here, past rows that name other classes: it goes on to the caller -/
theorem vx_outP {p : Program} {l : Launch} {e : Env} {R : Room} {s : State} {m : MethodId} {args : Array Value} {below : List Frame} {meth : Method} {c : Code} {H : Heap} {locs : List Loc} {cells slots : Nat} {free : Addr → Prop} {ls : Array Slot} {rest : List Value} {Qc : Array Value → State → Outcome → State → Prop} {XC : String → State → State → Prop}
    {pc : Nat} {own E : String} {ce : Cell} {q : Addr} {mc ms : Nat} (hown : s.vm.findClass own = some m.cls) (hlocks : meth.locks = false)
    (hpass : ∀ z ∈ c.exceptionTable.toList, covers z pc = false ∨ (z.catchType ≠ 0 ∧ ∃ nm : String, (Cond.classLink own z.catchType nm).before args s = true ∧ va_Nc E nm s)) (hcell : H[q]? = some ce) (hv : ce.vm = .none) (hcl : s.vm.findClass E = some ce.cls)
    (hx : ∀ t : State, t.heap = H → s.vm.Alike t.vm → XC E s t) (hf : ∀ z ∈ locs, free z.base) (hc : cells ≤ mc) (hs : slots ≤ ms) :
    vx_W p l e R s m args below meth c H locs cells slots (vx_MQ below Qc XC args s mc ms free) (F0 m pc ls rest) q := by
  intro T hT X
  have hpl : e.platform.magicAccessors = ({} : Platform).magicAccessors := by rw [X.admits.platform]
  obtain ⟨vm', hW', X', st⟩ := X.outThrough hlocks q (g := F0 m pc ls rest) rfl rfl rfl (cell := ce) (by rw [hT]; exact hcell) (by rw [hv]; rfl)
    (by obtain ⟨k9, h9, -⟩ := Vm.findClass_spec hcl; exact ⟨k9, h9⟩) (fun z hz => by
      rcases hpass z hz with h | ⟨hz0, nm, hl1, hn1⟩
      · exact Or.inl h
      · obtain ⟨c6, hc6, hcl6⟩ := Cond.classLink_spec hown hl1 e.platform hpl
        obtain ⟨a8, b8, h1, h2, h3⟩ := hn1
        cases Option.some.inj (h1.symm.trans hcl)
        cases Option.some.inj (h2.symm.trans hc6)
        exact Or.inr ⟨hz0, _, hcl6, h3⟩)
  obtain ⟨g₀, hfr⟩ := X'.frames_eq
  have hcell9 : ((T.setVm vm').setFrames (.throwing q :: below)).heap[q]? = some ce := by
    show T.heap[q]? = some ce
    rw [hT]; exact hcell
  have hend : Ended ((T.setVm vm').setFrames (.throwing q :: below)) below (.threw q) := State.frames_setFrames _ (State.cur_lt_of_frames hfr)
  refine ⟨(T.setVm vm').setFrames (.throwing q :: below), ?_, .threw q, X'.here.running, hend, Or.inr ⟨q, rfl, E, ce, locs, hx _ hT (X'.ends _).1.alike, hcell9, hv, hcl, (X'.ends _).1, (X'.ends _).2.mono hc hs, hf⟩⟩
  rw [X.pushThrowing_eq]
  exact st
/-- a thing of a world lies in the heap -/
theorem vx_lt {D : va_G} {cl : List vw_C} {ws : va_W} {H1 : Heap} (h : va_P D cl ws H1) {k : Nat} {q : Nat × va_E} (hk : ws[k]? = some q) : q.1 < H1.size := (h k q hk).lt
end VXS
/-! ===== END ===== -/
/-! ===== BEGIN methods with a table of their own: called by a name, returning or throwing ===== -/
section VXH
/-! vx_backW, vx_callVX, vx_callSX, vx_callVW, vx_runVW, vx_runVX, vx_runSX, vx_ofWH follow the same proofs as their sisters above (Free/Laws.lean, Shelf42/LK1.lean); vx_outP calls Shelf42/NT130.lean (outThrough). -/
section
variable {l : Launch} {R : Room} {p : Program} {e : Env} {below : List Frame} {s : State} {sargs : Array Value} {y : MethodName} {len W9 : Nat}
theorem vx_backW {ws : List Cond} {rm : Room} {Pc : Array Value → State → Prop} {Qc : Array Value → State → Outcome → State → Prop} {XC : String → State → State → Prop} {mc ms : Nat} {free : Addr → Prop} {bytes : ByteArray} {maxL : Nat} {ret : Option FieldType} {hh : List (Nat × Nat × Nat × Nat)}
    (hM : vx_Met l y ws rm Pc Qc XC mc ms free) (hblind : FrameBlind Pc) (hrc : rm.cells = mc) (hrs : rm.slots = ms)
    (hframes : rm.frames + 1 ≤ R.frames) (hlocals : W9 + (maxL + 11) + rm.locals ≤ R.locals)
    (hws : ∀ w ∈ ws, ∀ a' U, s.WarmedH U.vm → w.before a' U = true) (hcode : Cond.codeWith y bytes maxL ret hh ∈ ws) (hinit : ∀ a' U, s.WarmedH U.vm → (Cond.initialized y.cls).before a' U = true) :
    vx_Back l R p e below s sargs y len W9 (PreOf R mc ms Pc) (PostOf Qc mc ms free) (vx_Post XC mc ms free) := by
  intro m meth c A g ig mk a X hg hsize hdg hW hn hp
  have h1 : (headSpec ws rm).pre.before a A.U = true := atoms_intro fun w hw => hws w hw _ _ X.warmed
  have h2 : (Cond.codeWith y bytes maxL ret hh).before a A.U = true := hws _ hcode _ _ X.warmed
  have h3 : (Cond.initialized y.cls).before a A.U = true := hinit _ _ X.warmed
  have h4 : A.cells + (headSpec ws rm).room.cells ≤ R.cells := by rw [show (headSpec ws rm).room.cells = mc from hrc]; exact hp.1
  have h5 : A.slots + (headSpec ws rm).room.slots ≤ R.slots := by rw [show (headSpec ws rm).room.slots = ms from hrs]; exact hp.2.1
  have hPc : Pc a (A.U.calling g mk a) := hblind _ _ _ _ hp.2.2
  obtain ⟨U, Ls, c0, s0⟩ := A
  dsimp only [Pt.U, Pt.locs, Pt.cells, Pt.slots] at h1 h2 h3 h4 h5 X hn hPc ⊢
  obtain ⟨m9, methY, cY, hn9, hmY, hcY, -, hlY, -⟩ := Cond.codeWith_spec h2
  cases Option.some.inj (hn9.symm.trans hn)
  obtain ⟨kY, hkY, -⟩ := className_of_methodNamed hn
  have hinitY : kY.init = .initialized := Cond.initialized_spec (findClass_of_methodNamed hn) hkY h3
  have h : At U g.method c below := by rw [hg]; exact X.here
  have hlocals9 : W9 + (maxL + 11) + (headSpec ws rm).room.locals ≤ R.locals := hlocals
  have happ : (headSpec ws rm).appliesLoose y e.platform (U.calling g mk a) = true :=
    Spec.appliesLoose_calling (g := g) h hdg hn hkY hinitY
      (X.room_calling (g := g) (R' := (headSpec ws rm).room) hsize hmY hcY hframes (by rw [hlY]; omega) h4 h5) h1
  obtain ⟨mid, hmid⟩ := h.above
  have hfr : (U.setTop g).frames = (.java g :: mid) ++ below := by rw [State.frames_setTop' g h.top, hmid]; rfl
  obtain ⟨o, s₂, hsteps, -, hend, hq⟩ := Steps.callFree hM p X.admits X.cas X.clock (acts := []) hfr happ hPc trivial
  have hq' : vx_Q Qc XC mc ms free a (U.calling g mk a) o s₂ := hq
  rw [State.frames_setTop' g h.top] at hend
  obtain ⟨g₀, hg0⟩ := Option.isSome_iff_exists.mp h.top
  obtain ⟨r, hr⟩ := State.topJava?_eq_some.mp hg0
  have hr' : (({ U with heap := s₂.heap, slotsUsed := s₂.slotsUsed } : State).setVm s₂.vm).frames = .java g₀ :: r := hr
  rcases hq' with ⟨hqc, L, hfe, hL⟩ | ⟨q, rfl, E, ce, L, hx, hce, hcv, hcl, hW₂, hsm, hL⟩
  · obtain ⟨⟨v, rfl⟩, hW₂, e2, q2, q3, q4, q5, q6⟩ := id hfe
    have e3 : s₂ = ({ (U.calling g mk a).setFrames s₂.frames with heap := s₂.heap, slotsUsed := s₂.slotsUsed } : State).setVm s₂.vm := by
      have : s₂ = ({ s₂ with vm := (U.calling g mk a).vm } : State).setVm s₂.vm := rfl
      rw [e2] at this
      exact this
    obtain ⟨c₂, i₂, len₂, hc₂, hd₂, hf₂⟩ := hend
    have hW' : U.WarmedH s₂.vm := hW₂
    have hcc : c₂ = c := by
      have h1 : s₂.code? g.method = U.code? g.method := by
        rw [State.code?_eq, State.code?_eq, hW'.alike.method?]
      exact Option.some.inj (hc₂.symm.trans (h1.trans h.code))
    subst hcc
    have hlen : len₂ = len := by rw [hdg] at hd₂; cases hd₂; rfl
    subst hlen
    have hs₂ : s₂ = (({ U with heap := s₂.heap, slotsUsed := s₂.slotsUsed } : State).setVm s₂.vm).setTop { g with pc := g.pc + len₂, stack := v.toList ++ g.stack } := by
      refine e3.trans ?_
      rw [hf₂, State.calling_eq h.top, State.setFrames_setFrames, State.setTop_of_frames _ hr', hr]
      rfl
    have hsame : U.sameButNew ({ U with heap := s₂.heap, slotsUsed := s₂.slotsUsed } : State) L mc ms := by
      refine ⟨?_, q2, q3, q4, q5, q6⟩
      obtain ⟨t, ht, -⟩ := State.frames_cons hr
      show ({ U with heap := s₂.heap, slotsUsed := s₂.slotsUsed } : State) = { U.setFrames U.frames with heap := s₂.heap, slotsUsed := s₂.slotsUsed }
      rw [State.setFrames_self ht]
    subst hg
    refine Or.inl ⟨v, ⟨(({ U with heap := s₂.heap, slotsUsed := s₂.slotsUsed } : State).setVm s₂.vm), Ls ++ L, c0 + mc, s0 + ms⟩,
      ⟨X.admits, X.cas, X.clock, X.frames, X.room, X.hears, X.method, X.code, (X.here.setHeapUsed s₂.heap s₂.slotsUsed).setVm hW'.alike, X.tail, State.WarmedH.trans X.warmed hW', X.limits, X.bytes, X.same.trans (hsame.setVm s.vm)⟩,
      ⟨g, mk, s₂, L, rfl, rfl, hqc, rfl, hL, rfl, rfl⟩, ?_⟩
    show Steps p.tables e below _ ((({ U with heap := s₂.heap, slotsUsed := s₂.slotsUsed } : State).setVm s₂.vm).setTop { g with pc := g.pc + len₂, stack := v.toList ++ g.stack })
    rw [← hs₂]
    exact hsteps
  · obtain ⟨e2, q2, q3, q4, q5, q6⟩ := id hsm
    have e3 : s₂ = ({ (U.calling g mk a).setFrames s₂.frames with heap := s₂.heap, slotsUsed := s₂.slotsUsed } : State).setVm s₂.vm := by
      have : s₂ = ({ s₂ with vm := (U.calling g mk a).vm } : State).setVm s₂.vm := rfl
      rw [e2] at this
      exact this
    have hf₂ : s₂.frames = .throwing q :: .java g :: U.frames.tail := hend
    have hW' : U.WarmedH s₂.vm := hW₂
    have hs₂ : s₂ = ((({ U with heap := s₂.heap, slotsUsed := s₂.slotsUsed } : State).setVm s₂.vm).setTop g).pushFrame (.throwing q) := by
      refine e3.trans ?_
      rw [hf₂, State.calling_eq h.top, State.setFrames_setFrames, State.pushFrame, State.frames_setTop _ hr', State.setTop_of_frames _ hr', State.setFrames_setFrames, hr]
      rfl
    have hsame : U.sameButNew ({ U with heap := s₂.heap, slotsUsed := s₂.slotsUsed } : State) L mc ms := by
      refine ⟨?_, q2, q3, q4, q5, q6⟩
      obtain ⟨t, ht, -⟩ := State.frames_cons hr
      show ({ U with heap := s₂.heap, slotsUsed := s₂.slotsUsed } : State) = { U.setFrames U.frames with heap := s₂.heap, slotsUsed := s₂.slotsUsed }
      rw [State.setFrames_self ht]
    subst hg
    refine Or.inr ⟨q, ⟨(({ U with heap := s₂.heap, slotsUsed := s₂.slotsUsed } : State).setVm s₂.vm), Ls ++ L, c0 + mc, s0 + ms⟩,
      ⟨X.admits, X.cas, X.clock, X.frames, X.room, X.hears, X.method, X.code, (X.here.setHeapUsed s₂.heap s₂.slotsUsed).setVm hW'.alike, X.tail, State.WarmedH.trans X.warmed hW', X.limits, X.bytes, X.same.trans (hsame.setVm s.vm)⟩,
      ⟨g, mk, s₂, L, E, ce, rfl, rfl, hx, hce, hcv, hcl, rfl, hL, rfl, rfl⟩, ?_⟩
    show Steps p.tables e below _ (((({ U with heap := s₂.heap, slotsUsed := s₂.slotsUsed } : State).setVm s₂.vm).setTop g).pushFrame (.throwing q))
    rw [← hs₂]
    exact hsteps
end
variable {p : Program} {l : Launch} {e : Env} {R : Room} {s : State} {m : MethodId} {args : Array Value} {below : List Frame} {meth : Method} {c : Code} {T : State} {H : Heap} {locs : List Loc} {cells slots : Nat}
theorem vx_callVX (X : Stand p l e R s m args below meth c T locs cells slots) (hexec : p.tables.exec = Jvm.exec) {own C : String} {index : Nat} {y : MethodName} {bytes : ByteArray} {maxL : Nat} {ret : Option FieldType} {hh : List (Nat × Nat × Nat × Nat)}
    (hown : s.vm.findClass own = some m.cls) (hlink : (Cond.methodLink own index y).before args s = true) (hinst : (Cond.instanceMethod y).before args s = true) (hsel : (Cond.selects C y y).before args s = true)
    (hcode : (Cond.codeWith y bytes maxL ret hh).before args s = true) (hy : y.cls ≠ "java/lang/invoke/MethodHandle" ∧ y.cls ≠ "java/lang/invoke/VarHandle")
    {W9 : Nat} {Pre : Pt → Array Value → Prop} {Post : Pt → Array Value → Option Value → Pt → Prop} {PostX : Pt → Array Value → Addr → Pt → Prop} (hK : vx_Back l R p e below s args y 3 W9 Pre Post PostX)
    {b : Addr} {cellB : Cell} (hcell : T.heap[b]? = some cellB) (hobj : cellB.vm.isStatics = false) (hcls : s.vm.findClass C = some cellB.cls)
    {g : JFrame} (hg : g.method = m) (hsize : g.locals.size = c.maxLocals) {argsL rest : List Value} (hlen : ∀ sig, parseMethodDescriptor y.desc = some sig → argsL.length = sig.parameters.length)
    (hstack : g.stack = argsL.reverse ++ .ref b :: rest) (hW : 2 * g.monitorRoom + (rest.map fun v => v.category).sum ≤ W9) (hdg : decode c.code g.pc = .ok (.invokevirtual index, 3))
    (hpre : ∀ vm₁, s.WarmedH vm₁ → Pre ⟨T.setVm vm₁, locs, cells, slots⟩ (Value.ref b :: argsL).toArray) :
    (∃ (v : Option Value) (vm₁ : Vm) (B : Pt), s.WarmedH vm₁ ∧ Stand p l e R s m args below meth c B.U B.locs B.cells B.slots ∧ Post ⟨T.setVm vm₁, locs, cells, slots⟩ (Value.ref b :: argsL).toArray v B ∧
      ∀ target, Steps p.tables e below (B.U.setTop { g with pc := g.pc + 3, stack := v.toList ++ rest }) target → Steps p.tables e below (T.setTop g) target) ∨
    (∃ (q : Addr) (vm₁ : Vm) (B : Pt), s.WarmedH vm₁ ∧ Stand p l e R s m args below meth c B.U B.locs B.cells B.slots ∧ PostX ⟨T.setVm vm₁, locs, cells, slots⟩ (Value.ref b :: argsL).toArray q B ∧
      Steps p.tables e below (T.setTop g) ((B.U.setTop { g with stack := rest }).pushFrame (.throwing q))) := by
  obtain ⟨mk, methM, hnamed, hmethM, hstM, habM⟩ := Cond.instanceMethod_spec hinst
  obtain ⟨m8, methM', cM, hn8, hmethM', -, -, -, -, -, -, hsigM⟩ := Cond.codeWith_spec hcode
  cases Option.some.inj (hn8.symm.trans hnamed)
  cases hmethM.symm.trans hmethM'
  obtain ⟨c2, r2, m2, q1, q2, q3, q4, kP, hkP, hkPi⟩ := Cond.selects_spec hsel
  cases hcls.symm.trans q1
  cases (State.methodFound?_of_named hnamed hy).symm.trans q2
  cases hnamed.symm.trans q3
  have hselP : selectMethod e.platform s.vm cellB.cls mk = .method mk := by rw [Launch.admits_selectMethod X.admits]; exact q4
  obtain ⟨vm₁, X₁, hstep₁⟩ := X.invokevirtual hexec hown hlink hnamed hmethM hstM hkP hkPi hy (a := b) (cell := cellB) hcell
    (fun z h => by rw [h] at hobj; cases hobj) hselP hmethM habM hkP hkPi (g := g) hg (argsL := argsL) (rest := rest) (hlen _ hsigM) hstack hdg
  rcases hK m meth c ⟨T.setVm vm₁, locs, cells, slots⟩ { g with stack := rest } (.invokevirtual index) mk (Value.ref b :: argsL).toArray X₁ hg hsize hdg hW (X₁.named hnamed) (hpre vm₁ X₁.warmed) with ⟨v, B, X', hpost, hsteps⟩ | ⟨q, B, X', hpost, hsteps⟩
  · exact Or.inl ⟨v, vm₁, B, X₁.warmed, X', hpost, fun target h => hstep₁ _ fun acts => by rw [doInvoke_state]; exact hsteps.trans h⟩
  · exact Or.inr ⟨q, vm₁, B, X₁.warmed, X', hpost, hstep₁ _ fun acts => by rw [doInvoke_state]; exact hsteps⟩
theorem vx_callSX (X : Stand p l e R s m args below meth c T locs cells slots) (hexec : p.tables.exec = Jvm.exec) {own : String} {index : Nat} {y : MethodName} {bytes : ByteArray} {maxL : Nat} {ret : Option FieldType} {hh : List (Nat × Nat × Nat × Nat)}
    (hown : s.vm.findClass own = some m.cls) (hlink : (Cond.methodLink own index y).before args s = true) (hstat : (Cond.static y).before args s = true) (hinit : (Cond.initialized y.cls).before args s = true)
    (hcode : (Cond.codeWith y bytes maxL ret hh).before args s = true) (hy : y.cls ≠ "java/lang/invoke/MethodHandle" ∧ y.cls ≠ "java/lang/invoke/VarHandle")
    {W9 : Nat} {Pre : Pt → Array Value → Prop} {Post : Pt → Array Value → Option Value → Pt → Prop} {PostX : Pt → Array Value → Addr → Pt → Prop} (hK : vx_Back l R p e below s args y 3 W9 Pre Post PostX)
    {g : JFrame} (hg : g.method = m) (hsize : g.locals.size = c.maxLocals) {argsL rest : List Value} (hlen : ∀ sig, parseMethodDescriptor y.desc = some sig → argsL.length = sig.parameters.length)
    (hstack : g.stack = argsL.reverse ++ rest) (hW : 2 * g.monitorRoom + (rest.map fun v => v.category).sum ≤ W9) (hdg : decode c.code g.pc = .ok (.invokestatic index, 3))
    (hpre : ∀ vm₁, s.WarmedH vm₁ → Pre ⟨T.setVm vm₁, locs, cells, slots⟩ argsL.toArray) :
    (∃ (v : Option Value) (vm₁ : Vm) (B : Pt), s.WarmedH vm₁ ∧ Stand p l e R s m args below meth c B.U B.locs B.cells B.slots ∧ Post ⟨T.setVm vm₁, locs, cells, slots⟩ argsL.toArray v B ∧
      ∀ target, Steps p.tables e below (B.U.setTop { g with pc := g.pc + 3, stack := v.toList ++ rest }) target → Steps p.tables e below (T.setTop g) target) ∨
    (∃ (q : Addr) (vm₁ : Vm) (B : Pt), s.WarmedH vm₁ ∧ Stand p l e R s m args below meth c B.U B.locs B.cells B.slots ∧ PostX ⟨T.setVm vm₁, locs, cells, slots⟩ argsL.toArray q B ∧
      Steps p.tables e below (T.setTop g) ((B.U.setTop { g with stack := rest }).pushFrame (.throwing q))) := by
  obtain ⟨mk, methM, cM, hnamed, hmethM, -, -, -, -, -, -, hsigM⟩ := Cond.codeWith_spec hcode
  have hstatic : methM.isStatic = true := Cond.static_spec hnamed hmethM hstat
  obtain ⟨kP, hkP, -⟩ := className_of_methodNamed hnamed
  have hinitP : kP.init = .initialized := Cond.initialized_spec (findClass_of_methodNamed hnamed) hkP hinit
  obtain ⟨vm₁, X₁, hstep₁⟩ := X.invokestatic hexec hown hlink hnamed hmethM hstatic hkP hinitP hy (g := g) hg (argsL := argsL) (rest := rest) (hlen _ hsigM) hstack hdg
  rcases hK m meth c ⟨T.setVm vm₁, locs, cells, slots⟩ { g with stack := rest } (.invokestatic index) mk argsL.toArray X₁ hg hsize hdg hW (X₁.named hnamed) (hpre vm₁ X₁.warmed) with ⟨v, B, X', hpost, hsteps⟩ | ⟨q, B, X', hpost, hsteps⟩
  · exact Or.inl ⟨v, vm₁, B, X₁.warmed, X', hpost, fun target h => hstep₁ _ fun acts => by rw [doInvoke_state]; exact hsteps.trans h⟩
  · exact Or.inr ⟨q, vm₁, B, X₁.warmed, X', hpost, hstep₁ _ fun acts => by rw [doInvoke_state]; exact hsteps⟩
theorem vx_callVW (X : Stand p l e R s m args below meth c T locs cells slots) (hexec : p.tables.exec = Jvm.exec) {own C : String} {index : Nat} {y : MethodName} {bytes : ByteArray} {maxL : Nat} {ret : Option FieldType} {hh : List (Nat × Nat × Nat × Nat)}
    (hown : s.vm.findClass own = some m.cls) (hlink : (Cond.methodLink own index y).before args s = true) (hinst : (Cond.instanceMethod y).before args s = true) (hsel : (Cond.selects C y y).before args s = true)
    (hcode : (Cond.codeWith y bytes maxL ret hh).before args s = true) (hy : y.cls ≠ "java/lang/invoke/MethodHandle" ∧ y.cls ≠ "java/lang/invoke/VarHandle")
    {W9 : Nat} {Pre : Pt → Array Value → Prop} {Post : Pt → Array Value → Option Value → Pt → Prop} (hK : Back l R p e below s args y 3 W9 Pre Post)
    {b : Addr} {cellB : Cell} (hcell : T.heap[b]? = some cellB) (hobj : cellB.vm.isStatics = false) (hcls : s.vm.findClass C = some cellB.cls)
    {g : JFrame} (hg : g.method = m) (hsize : g.locals.size = c.maxLocals) {argsL rest : List Value} (hlen : ∀ sig, parseMethodDescriptor y.desc = some sig → argsL.length = sig.parameters.length)
    (hstack : g.stack = argsL.reverse ++ .ref b :: rest) (hW : 2 * g.monitorRoom + (rest.map fun v => v.category).sum ≤ W9) (hdg : decode c.code g.pc = .ok (.invokevirtual index, 3))
    (hpre : ∀ vm₁, s.WarmedH vm₁ → Pre ⟨T.setVm vm₁, locs, cells, slots⟩ (Value.ref b :: argsL).toArray) :
    ∃ (v : Option Value) (vm₁ : Vm) (B : Pt), s.WarmedH vm₁ ∧ Stand p l e R s m args below meth c B.U B.locs B.cells B.slots ∧ Post ⟨T.setVm vm₁, locs, cells, slots⟩ (Value.ref b :: argsL).toArray v B ∧
      ∀ target, Steps p.tables e below (B.U.setTop { g with pc := g.pc + 3, stack := v.toList ++ rest }) target → Steps p.tables e below (T.setTop g) target := by
  obtain ⟨mk, methM, hnamed, hmethM, hstM, habM⟩ := Cond.instanceMethod_spec hinst
  obtain ⟨m8, methM', cM, hn8, hmethM', -, -, -, -, -, -, hsigM⟩ := Cond.codeWith_spec hcode
  cases Option.some.inj (hn8.symm.trans hnamed)
  cases hmethM.symm.trans hmethM'
  obtain ⟨c2, r2, m2, q1, q2, q3, q4, kP, hkP, hkPi⟩ := Cond.selects_spec hsel
  cases hcls.symm.trans q1
  cases (State.methodFound?_of_named hnamed hy).symm.trans q2
  cases hnamed.symm.trans q3
  have hselP : selectMethod e.platform s.vm cellB.cls mk = .method mk := by rw [Launch.admits_selectMethod X.admits]; exact q4
  obtain ⟨vm₁, X₁, hstep₁⟩ := X.invokevirtual hexec hown hlink hnamed hmethM hstM hkP hkPi hy (a := b) (cell := cellB) hcell
    (fun z h => by rw [h] at hobj; cases hobj) hselP hmethM habM hkP hkPi (g := g) hg (argsL := argsL) (rest := rest) (hlen _ hsigM) hstack hdg
  obtain ⟨v, B, X', hpost, hsteps⟩ := hK m meth c ⟨T.setVm vm₁, locs, cells, slots⟩ { g with stack := rest } (.invokevirtual index) mk (Value.ref b :: argsL).toArray X₁ hg hsize hdg hW (X₁.named hnamed) (hpre vm₁ X₁.warmed)
  exact ⟨v, vm₁, B, X₁.warmed, X', hpost, fun target h => hstep₁ _ fun acts => by rw [doInvoke_state]; exact hsteps.trans h⟩
abbrev vx_CVW (R : Room) (s : State) (args : Array Value) (own C : String) (index : Nat) (y : MethodName) (bytes : ByteArray) (maxL : Nat) (ret : Option FieldType) (hh : List (Nat × Nat × Nat × Nat)) (ws : List Cond) (rm : Room) (mc ms n : Nat) : Prop :=
  (rm.cells = mc ∧ rm.slots = ms ∧ rm.frames + 1 ≤ R.frames ∧ 8 + (maxL + 11) + rm.locals ≤ R.locals ∧ (∀ w ∈ ws, ∀ (a' : Array Value) (U : State), s.WarmedH U.vm → w.before a' U = true) ∧ Cond.codeWith y bytes maxL ret hh ∈ ws) ∧
  (Cond.codeWith y bytes maxL ret hh).before args s = true ∧ (Cond.initialized y.cls).before args s = true ∧ (y.cls ≠ "java/lang/invoke/MethodHandle" ∧ y.cls ≠ "java/lang/invoke/VarHandle") ∧
  (∀ sig, parseMethodDescriptor y.desc = some sig → n = sig.parameters.length) ∧ (Cond.methodLink own index y).before args s = true ∧ (Cond.instanceMethod y).before args s = true ∧ (Cond.selects C y y).before args s = true
theorem vx_cwVW {own C : String} {index maxL mc ms : Nat} {y : MethodName} {bytes : ByteArray} {ret : Option FieldType} {hh : List (Nat × Nat × Nat × Nat)} {Ts ws ws' : List Cond} {rm : Room} (n : Nat) (ht : ∀ w ∈ Ts, w.before args s = true) (hT : GoodIn Ts (wsV own index C y ws)) (hw : ws = Cond.codeWith y bytes maxL ret hh :: ws') (hrc : rm.cells = mc) (hrs : rm.slots = ms)
    (hd : y.cls = C ∧ y.cls ≠ "java/lang/invoke/MethodHandle" ∧ y.cls ≠ "java/lang/invoke/VarHandle" ∧ (parseMethodDescriptor y.desc).map (fun d => d.parameters.length) = some n) (hR : rm.frames + 1 ≤ R.frames ∧ 8 + (maxL + 11) + rm.locals ≤ R.locals) :
    vx_CVW R s args own C index y bytes maxL ret hh ws rm mc ms n := by
  obtain ⟨hC, hd⟩ := hd
  subst hC
  have ok : ∀ w ∈ wsV own index y.cls y ws, w.before args s = true := fun w h => ht w (hT w h).1
  have hG : GoodIn Ts ws := fun w h => hT w (by unfold wsV; exact List.mem_append_right _ h)
  have hc : Cond.codeWith y bytes maxL ret hh ∈ ws := by rw [hw]; exact List.mem_cons_self
  refine ⟨⟨hrc, hrs, hR.1, hR.2, pay_in ht hG, hc⟩, ht _ (hG _ hc).1, ok _ (by simp [wsV]), ⟨hd.1, hd.2.1⟩, fun sig h => ?_, ok _ (by simp [wsV]), ok _ (by simp [wsV]), ok _ (by simp [wsV])⟩
  have h2 := hd.2.2
  rw [h] at h2
  exact (Option.some.inj h2).symm
theorem vx_runVW {y : MethodName} {bytes cc : ByteArray} {maxL nL mc ms n index : Nat} {ret : Option FieldType} {hh : List (Nat × Nat × Nat × Nat)} {ws : List Cond} {rm : Room} {Pc : Array Value → State → Prop} {Qc : Array Value → State → Outcome → State → Prop} {free : Addr → Prop} {Ts : List Cond} {own C : String} {b : Addr} {As rest : List Value} {g : JFrame}
    (S : CallFix p m c cc nL s args Ts own) (hM : Met l y ws rm Pc Qc mc ms free) (cw : vx_CVW R s args own C index y bytes maxL ret hh ws rm mc ms n) (hp : PreV s H C b Pc As)
    (hg : g.method = m) (hn : As.length = n) (hsize : g.locals.size = nL) (hstack : g.stack = As.reverse ++ .ref b :: rest) (hW : 2 * g.monitorRoom + (rest.map fun v => v.category).sum ≤ 8) (hdg : decode cc g.pc = .ok (.invokevirtual index, 3)) (hf : cells + mc ≤ R.cells ∧ slots + ms ≤ R.slots) :
    va_Run p l e R s m args below meth c H locs cells slots mc ms g rest (Qc (Value.ref b :: As).toArray) free := by
  obtain ⟨⟨hrc, hrs, hfr, hlo, hws, hcw⟩, hcode, hini, hy, hlen, hl, hin, hse⟩ := cw
  have hK : Back l R p e below s args y 3 8 (PreOf R mc ms Pc) (PostOf Qc mc ms free) := va_backW (hh := hh) (bytes := bytes) (maxL := maxL) (ret := ret) hM hp.1 hrc hrs hfr hlo hws hcw (fun a' U hW => word_at hW (Or.inl (by first | rfl | simp [Cond.onTables, Cond.keeps, Cond.steady])) hini)
  obtain ⟨hx, hb, hml, ho, -⟩ := S
  obtain ⟨-, ⟨cellB, hcB, hoB, hclB⟩, hPc⟩ := hp
  intro T hT X
  obtain ⟨v, vm₁, ⟨U', l2, c2, s2⟩, hW₁, X', ⟨g', mk, t, L, e1, e2, hq, h1, hL, h2, h3⟩, st⟩ := vx_callVW X hx (C := C) (hh := hh) (bytes := bytes) (maxL := maxL) (ret := ret) ho hl hin hse hcode hy hK (by rw [hT]; exact hcB) hoB hclB hg (hsize.trans hml.symm) (argsL := As) (rest := rest) (fun sig h => hn.trans (hlen sig h)) hstack hW (by rw [hb]; exact hdg)
    (fun vm₁ hW₁ => ⟨hf.1, hf.2, hPc (T.setVm vm₁) hT hW₁⟩)
  dsimp only [Pt.U, Pt.locs, Pt.cells, Pt.slots] at X' e1 e2 h1 h2 h3 st
  subst h1; subst h2; subst h3
  exact ⟨v, (T.setVm vm₁).calling g' mk (Value.ref b :: As).toArray, t, U', L, hT, X', hL, e1, e2, hq, st⟩
section
variable {y : MethodName} {bytes cc : ByteArray} {maxL nL mc ms n index : Nat} {ret : Option FieldType} {ws : List Cond} {rm : Room} {Pc : Array Value → State → Prop} {Qc : Array Value → State → Outcome → State → Prop} {XC : String → State → State → Prop} {free : Addr → Prop} {Ts : List Cond} {own C : String} {b : Addr} {As rest : List Value} {g : JFrame}
theorem vx_runVX {hh : List (Nat × Nat × Nat × Nat)} (S : CallFix p m c cc nL s args Ts own) (hM : vx_Met l y ws rm Pc Qc XC mc ms free) (cw : vx_CVW R s args own C index y bytes maxL ret hh ws rm mc ms n) (hp : PreV s H C b Pc As)
    (hg : g.method = m) (hn : As.length = n) (hsize : g.locals.size = nL) (hstack : g.stack = As.reverse ++ .ref b :: rest) (hW : 2 * g.monitorRoom + (rest.map fun v => v.category).sum ≤ 8) (hdg : decode cc g.pc = .ok (.invokevirtual index, 3)) (hf : cells + mc ≤ R.cells ∧ slots + ms ≤ R.slots) :
    vx_Run p l e R s m args below meth c H locs cells slots mc ms g rest (Qc (Value.ref b :: As).toArray) XC free := by
  obtain ⟨⟨hrc, hrs, hfr, hlo, hws, hcw⟩, hcode, hini, hy, hlen, hl, hin, hse⟩ := cw
  have hK : vx_Back l R p e below s args y 3 8 (PreOf R mc ms Pc) (PostOf Qc mc ms free) (vx_Post XC mc ms free) := vx_backW (hh := hh) (bytes := bytes) (maxL := maxL) (ret := ret) hM hp.1 hrc hrs hfr hlo hws hcw (fun a' U hW => word_at hW (Or.inl (by first | rfl | simp [Cond.onTables, Cond.keeps, Cond.steady])) hini)
  obtain ⟨hx, hb, hml, ho, -⟩ := S
  obtain ⟨-, ⟨cellB, hcB, hoB, hclB⟩, hPc⟩ := hp
  intro T hT X
  rcases vx_callVX X hx (C := C) (hh := hh) (bytes := bytes) (maxL := maxL) (ret := ret) ho hl hin hse hcode hy hK (by rw [hT]; exact hcB) hoB hclB hg (hsize.trans hml.symm) (argsL := As) (rest := rest) (fun sig h => hn.trans (hlen sig h)) hstack hW (by rw [hb]; exact hdg)
    (fun vm₁ hW₁ => ⟨hf.1, hf.2, hPc (T.setVm vm₁) hT hW₁⟩) with ⟨v, vm₁, ⟨U', l2, c2, s2⟩, hW₁, X', ⟨g', mk, t, L, e1, e2, hq, h1, hL, h2, h3⟩, st⟩ | ⟨q, vm₁, ⟨U', l2, c2, s2⟩, hW₁, X', ⟨g', mk, t, L, E, ce, e1, e2, hq, hce, hcv, hcl, h1, hL, h2, h3⟩, st⟩
  · dsimp only [Pt.U, Pt.locs, Pt.cells, Pt.slots] at X' e1 e2 h1 h2 h3 st
    subst h1; subst h2; subst h3
    exact Or.inl ⟨v, (T.setVm vm₁).calling g' mk (Value.ref b :: As).toArray, t, U', L, hT, X', hL, e1, e2, hq, st⟩
  · dsimp only [Pt.U, Pt.locs, Pt.cells, Pt.slots] at X' e1 e2 h1 h2 h3 st hcl
    subst h1; subst h2; subst h3
    exact Or.inr ⟨q, (T.setVm vm₁).calling g' mk (Value.ref b :: As).toArray, t, U', L, E, ce, hT, X', hL, e1, e2, hq, hce, hcv, vx_cls hW₁ hcl, st⟩
theorem vx_runSX {hh : List (Nat × Nat × Nat × Nat)} (S : CallFix p m c cc nL s args Ts own) (hM : vx_Met l y ws rm Pc Qc XC mc ms free) (cw : vx_CSW R s args own index y bytes maxL ret hh ws rm mc ms n) (hp : PreS s H Pc As)
    (hg : g.method = m) (hn : As.length = n) (hsize : g.locals.size = nL) (hstack : g.stack = As.reverse ++ rest) (hW : 2 * g.monitorRoom + (rest.map fun v => v.category).sum ≤ 8) (hdg : decode cc g.pc = .ok (.invokestatic index, 3)) (hf : cells + mc ≤ R.cells ∧ slots + ms ≤ R.slots) :
    vx_Run p l e R s m args below meth c H locs cells slots mc ms g rest (Qc As.toArray) XC free := by
  obtain ⟨⟨hrc, hrs, hfr, hlo, hws, hcw⟩, hcode, hini, hy, hlen, hl, hstt⟩ := cw
  have hK : vx_Back l R p e below s args y 3 8 (PreOf R mc ms Pc) (PostOf Qc mc ms free) (vx_Post XC mc ms free) := vx_backW (hh := hh) (bytes := bytes) (maxL := maxL) (ret := ret) hM hp.1 hrc hrs hfr hlo hws hcw (fun a' U hW => word_at hW (Or.inl (by first | rfl | simp [Cond.onTables, Cond.keeps, Cond.steady])) hini)
  obtain ⟨hx, hb, hml, ho, -⟩ := S
  intro T hT X
  rcases vx_callSX X hx (hh := hh) (bytes := bytes) (maxL := maxL) (ret := ret) ho hl hstt hini hcode hy hK hg (hsize.trans hml.symm) (argsL := As) (rest := rest) (fun sig h => hn.trans (hlen sig h)) hstack hW (by rw [hb]; exact hdg)
    (fun vm₁ hW₁ => ⟨hf.1, hf.2, hp.2 (T.setVm vm₁) hT hW₁⟩) with ⟨v, vm₁, ⟨U', l2, c2, s2⟩, hW₁, X', ⟨g', mk, t, L, e1, e2, hq, h1, hL, h2, h3⟩, st⟩ | ⟨q, vm₁, ⟨U', l2, c2, s2⟩, hW₁, X', ⟨g', mk, t, L, E, ce, e1, e2, hq, hce, hcv, hcl, h1, hL, h2, h3⟩, st⟩
  · dsimp only [Pt.U, Pt.locs, Pt.cells, Pt.slots] at X' e1 e2 h1 h2 h3 st
    subst h1; subst h2; subst h3
    exact Or.inl ⟨v, (T.setVm vm₁).calling g' mk As.toArray, t, U', L, hT, X', hL, e1, e2, hq, st⟩
  · dsimp only [Pt.U, Pt.locs, Pt.cells, Pt.slots] at X' e1 e2 h1 h2 h3 st hcl
    subst h1; subst h2; subst h3
    exact Or.inr ⟨q, (T.setVm vm₁).calling g' mk As.toArray, t, U', L, E, ce, hT, X', hL, e1, e2, hq, hce, hcv, vx_cls hW₁ hcl, st⟩
end
end VXH
theorem vx_ofWH {l : Launch} {y : MethodName} {ws ws' : List Cond} {rm : Room} {Pc : Array Value → State → Prop} {Qc : Array Value → State → Outcome → State → Prop} {XC : String → State → State → Prop} {mc ms : Nat} {free : Addr → Prop} {cc : ByteArray} {maxL : Nat} {ret : Option FieldType} {hh : List (Nat × Nat × Nat × Nat)}
    (hy : plainName y.cls = true) (hw : ws = Cond.codeWith y cc maxL ret hh :: ws')
    (body : ∀ p e s m args below meth c s₁, BodyLoose p l y (headSpec ws rm) cc maxL ret e s m args below meth c s₁ → c.maxLocals = maxL → Pc args s →
      W p l e (headSpec ws rm).room s m args below meth c s.heap [] 0 0 (vx_MQ below Qc XC args s mc ms free) (entryFrame m args maxL)) : vx_Met l y ws rm Pc Qc XC mc ms free := by
  refine MetFree.of_bodyS (code := cc) (maxLocals := maxL) (ret := ret) hy ?_ ?_
  · intro args s m h hn
    obtain ⟨m9, meth, c, hn9, h1, h2, h3, h4, -, h5, h6, -⟩ := Cond.codeWith_spec (atoms_spec (ws := ws) h _ (by rw [hw]; exact List.mem_cons_self))
    cases hn.symm.trans hn9
    exact ⟨meth, c, h1, h2, h3, h4, h5, h6⟩
  · intro p e s m args below meth c s₁ B hml hP _
    have hh0 : s₁.heap = s.heap := by rw [B.state]; rfl
    obtain ⟨t, a1, o, b1, b2, b3⟩ := body p e s m args below meth c s₁ B hml hP s₁ hh0 (Stand.of_body B)
    exact ⟨t, o, a1, b1, b2, b3⟩
/-! ===== END ===== -/
end
section
/-! ===== BEGIN printed: names, fields, word lists, decode rows ===== -/
def RX0 : String := "LocalBounds"
def TX0 : u_T := fun k => match k with
  | 0 => ("LocalBounds", "width", "I", true)
  | 1 => ("LocalBounds", "height", "I", true)
  | 2 => ("LocalBounds", "count", "I", true)
  | 3 => ("LocalBounds", "samples", "[I", true)
  | 4 => ("LocalBounds", "black", "[Z", true)
  | 5 => ("LocalBounds", "lost", "J", false)
  | 6 => ("LocalBounds", "ofGrey", "[I", true)
  | 7 => ("LocalBounds", "came", "[I", true)
  | 8 => ("LocalBounds", "sums", "[J", true)
  | 9 => ("LocalBounds", "squareSums", "[J", true)
  | 10 => ("LocalBounds", "marked", "[Z", true)
  | 11 => ("LocalBounds", "queue", "[I", true)
  | _ => ("LocalBounds", "queued", "I", false)
def tyX0 : Nat → FieldType := fun k => match k with
  | 0 => .int
  | 1 => .int
  | 2 => .int
  | 3 => .array .int
  | 4 => .array .boolean
  | 5 => .long
  | 6 => .array .int
  | 7 => .array .int
  | 8 => .array .long
  | 9 => .array .long
  | 10 => .array .boolean
  | 11 => .array .int
  | _ => .int
abbrev wsX00 : List Cond := u_ws RX0 TX0 13
theorem nmX0 : ∀ a, a < 13 → ∀ b, b < 13 → a ≠ b → (TX0 a).2.1 ≠ (TX0 b).2.1 := by decide +kernel
theorem tyX0_ok : ∀ k, k < 13 → parseFieldDescriptor (TX0 k).2.2.1 = some (tyX0 k) := by decide +kernel
abbrev cX0_init : ByteArray := prog_1_method_1_code
def yX0_init : MethodName := ⟨RX0, "<init>", "(II)V"⟩
abbrev cX0_put : ByteArray := prog_1_method_2_code
def yX0_put : MethodName := ⟨RX0, "put", "(III)I"⟩
abbrev cX0_paint : ByteArray := prog_1_method_3_code
def yX0_paint : MethodName := ⟨RX0, "paint", "(II)I"⟩
abbrev cX0_global : ByteArray := prog_1_method_4_code
def yX0_global : MethodName := ⟨RX0, "global", "()I"⟩
abbrev cX0_local : ByteArray := prog_1_method_5_code
def yX0_local : MethodName := ⟨RX0, "local", "(II)I"⟩
abbrev cX0_spread : ByteArray := prog_1_method_6_code
def yX0_spread : MethodName := ⟨RX0, "spread", "(I)I"⟩
abbrev cX0_rest : ByteArray := prog_1_method_7_code
def yX0_rest : MethodName := ⟨RX0, "rest", "()J"⟩
abbrev cX0_ordered : ByteArray := prog_1_method_8_code
def yX0_ordered : MethodName := ⟨RX0, "ordered", "(I)I"⟩
abbrev cX0_join : ByteArray := prog_1_method_9_code
def yX0_join : MethodName := ⟨RX0, "join", "(II)I"⟩
abbrev cX0_clean : ByteArray := prog_1_method_10_code
def yX0_clean : MethodName := ⟨RX0, "clean", "(I)I"⟩
abbrev cX0_edges : ByteArray := prog_1_method_11_code
def yX0_edges : MethodName := ⟨RX0, "edges", "()I"⟩
abbrev cX0_invert : ByteArray := prog_1_method_12_code
def yX0_invert : MethodName := ⟨RX0, "invert", "()I"⟩
abbrev cX0_at : ByteArray := prog_1_method_13_code
def yX0_at : MethodName := ⟨RX0, "at", "(II)Z"⟩
abbrev cX0_sum : ByteArray := prog_1_method_14_code
def yX0_sum : MethodName := ⟨RX0, "sum", "(IIIIZ)J"⟩
abbrev cX0_cell : ByteArray := prog_1_method_15_code
def yX0_cell : MethodName := ⟨RX0, "cell", "(III)I"⟩
abbrev cX0_told : ByteArray := prog_1_method_16_code
def yX0_told : MethodName := ⟨RX0, "told", "(I)I"⟩
abbrev cX0_clear : ByteArray := prog_1_method_17_code
def yX0_clear : MethodName := ⟨RX0, "clear", "()V"⟩
abbrev cX0_nearestSide : ByteArray := prog_1_method_18_code
def yX0_nearestSide : MethodName := ⟨RX0, "nearestSide", "(I)I"⟩
abbrev cX0_isInside : ByteArray := prog_1_method_19_code
def yX0_isInside : MethodName := ⟨RX0, "isInside", "(II)Z"⟩
abbrev cX0_placeOf : ByteArray := prog_1_method_20_code
def yX0_placeOf : MethodName := ⟨RX0, "placeOf", "(II)I"⟩
abbrev cX0_columnOf : ByteArray := prog_1_method_21_code
def yX0_columnOf : MethodName := ⟨RX0, "columnOf", "(I)I"⟩
abbrev cX0_rowOf : ByteArray := prog_1_method_22_code
def yX0_rowOf : MethodName := ⟨RX0, "rowOf", "(I)I"⟩
abbrev cX0_isPart : ByteArray := prog_1_method_23_code
def yX0_isPart : MethodName := ⟨RX0, "isPart", "(III)Z"⟩
abbrev cX0_countBlack : ByteArray := prog_1_method_24_code
def yX0_countBlack : MethodName := ⟨RX0, "countBlack", "()I"⟩
abbrev cX0_fillOfGrey : ByteArray := prog_1_method_25_code
def yX0_fillOfGrey : MethodName := ⟨RX0, "fillOfGrey", "()V"⟩
abbrev cX0_countGreys : ByteArray := prog_1_method_26_code
def yX0_countGreys : MethodName := ⟨RX0, "countGreys", "()I"⟩
abbrev cX0_bestBound : ByteArray := prog_1_method_27_code
def yX0_bestBound : MethodName := ⟨RX0, "bestBound", "()I"⟩
abbrev cX0_sumOfSamples : ByteArray := prog_1_method_28_code
def yX0_sumOfSamples : MethodName := ⟨RX0, "sumOfSamples", "()J"⟩
abbrev cX0_fillSums : ByteArray := prog_1_method_29_code
def yX0_fillSums : MethodName := ⟨RX0, "fillSums", "()V"⟩
abbrev cX0_cornerOf : ByteArray := prog_1_method_30_code
def yX0_cornerOf : MethodName := ⟨RX0, "cornerOf", "(II)I"⟩
abbrev cX0_sumBetween : ByteArray := prog_1_method_31_code
def yX0_sumBetween : MethodName := ⟨RX0, "sumBetween", "([JIIII)J"⟩
abbrev cX0_isDarkInWindow : ByteArray := prog_1_method_32_code
def yX0_isDarkInWindow : MethodName := ⟨RX0, "isDarkInWindow", "(IIII)Z"⟩
abbrev cX0_spreadRow : ByteArray := prog_1_method_33_code
def yX0_spreadRow : MethodName := ⟨RX0, "spreadRow", "(II)V"⟩
abbrev cX0_spreadSample : ByteArray := prog_1_method_34_code
def yX0_spreadSample : MethodName := ⟨RX0, "spreadSample", "(IIII)V"⟩
abbrev cX0_passTo : ByteArray := prog_1_method_35_code
def yX0_passTo : MethodName := ⟨RX0, "passTo", "(III)V"⟩
abbrev cX0_isCells : ByteArray := prog_1_method_36_code
def yX0_isCells : MethodName := ⟨RX0, "isCells", "(I)Z"⟩
abbrev cX0_cellNumber : ByteArray := prog_1_method_37_code
def yX0_cellNumber : MethodName := ⟨RX0, "cellNumber", "(III)I"⟩
abbrev cX0_quarterNumber : ByteArray := prog_1_method_38_code
def yX0_quarterNumber : MethodName := ⟨RX0, "quarterNumber", "(ZZ)I"⟩
abbrev cX0_enqueue : ByteArray := prog_1_method_39_code
def yX0_enqueue : MethodName := ⟨RX0, "enqueue", "(I)V"⟩
abbrev cX0_blackenRound : ByteArray := prog_1_method_40_code
def yX0_blackenRound : MethodName := ⟨RX0, "blackenRound", "(III)V"⟩
abbrev cX0_blackenUpTo : ByteArray := prog_1_method_41_code
def yX0_blackenUpTo : MethodName := ⟨RX0, "blackenUpTo", "(II)V"⟩
abbrev cX0_unmarkAll : ByteArray := prog_1_method_42_code
def yX0_unmarkAll : MethodName := ⟨RX0, "unmarkAll", "()V"⟩
abbrev cX0_gatherPart : ByteArray := prog_1_method_43_code
def yX0_gatherPart : MethodName := ⟨RX0, "gatherPart", "(IZ)V"⟩
abbrev cX0_gather : ByteArray := prog_1_method_44_code
def yX0_gather : MethodName := ⟨RX0, "gather", "(IIZ)V"⟩
abbrev cX0_countBlackParts : ByteArray := prog_1_method_45_code
def yX0_countBlackParts : MethodName := ⟨RX0, "countBlackParts", "()I"⟩
abbrev cX0_turnSpecks : ByteArray := prog_1_method_46_code
def yX0_turnSpecks : MethodName := ⟨RX0, "turnSpecks", "(ZI)I"⟩
abbrev cX0_isSpeck : ByteArray := prog_1_method_47_code
def yX0_isSpeck : MethodName := ⟨RX0, "isSpeck", "(ZI)Z"⟩
abbrev cX0_queuedComeToEdge : ByteArray := prog_1_method_48_code
def yX0_queuedComeToEdge : MethodName := ⟨RX0, "queuedComeToEdge", "()Z"⟩
abbrev cX0_turnQueued : ByteArray := prog_1_method_49_code
def yX0_turnQueued : MethodName := ⟨RX0, "turnQueued", "(Z)I"⟩
abbrev cX0_isEdge : ByteArray := prog_1_method_50_code
def yX0_isEdge : MethodName := ⟨RX0, "isEdge", "(II)Z"⟩
abbrev cX0_isBlack : ByteArray := prog_1_method_51_code
def yX0_isBlack : MethodName := ⟨RX0, "isBlack", "(II)Z"⟩
def RX1 : String := "LocalBoundsModel"
def TX1 : u_T := fun k => match k with
  | 0 => ("LocalBoundsModel", "thrown", "I", false)
  | 1 => ("LocalBoundsModel", "width", "I", true)
  | 2 => ("LocalBoundsModel", "height", "I", true)
  | 3 => ("LocalBoundsModel", "samples", "[I", true)
  | 4 => ("LocalBoundsModel", "black", "[Z", true)
  | 5 => ("LocalBoundsModel", "next", "[Z", true)
  | 6 => ("LocalBoundsModel", "came", "[I", true)
  | 7 => ("LocalBoundsModel", "part", "[I", true)
  | _ => ("LocalBoundsModel", "rest", "J", false)
def tyX1 : Nat → FieldType := fun k => match k with
  | 0 => .int
  | 1 => .int
  | 2 => .int
  | 3 => .array .int
  | 4 => .array .boolean
  | 5 => .array .boolean
  | 6 => .array .int
  | 7 => .array .int
  | _ => .long
abbrev wsX10 : List Cond := u_ws RX1 TX1 9
theorem nmX1 : ∀ a, a < 9 → ∀ b, b < 9 → a ≠ b → (TX1 a).2.1 ≠ (TX1 b).2.1 := by decide +kernel
theorem tyX1_ok : ∀ k, k < 9 → parseFieldDescriptor (TX1 k).2.2.1 = some (tyX1 k) := by decide +kernel
abbrev cX1_init : ByteArray := prog_3_method_1_code
def yX1_init : MethodName := ⟨RX1, "<init>", "(II)V"⟩
abbrev cX1_thrown : ByteArray := prog_3_method_2_code
def yX1_thrown : MethodName := ⟨RX1, "thrown", "()I"⟩
abbrev cX1_isIn : ByteArray := prog_3_method_3_code
def yX1_isIn : MethodName := ⟨RX1, "isIn", "(II)Z"⟩
abbrev cX1_all : ByteArray := prog_3_method_4_code
def yX1_all : MethodName := ⟨RX1, "all", "()I"⟩
abbrev cX1_put : ByteArray := prog_3_method_5_code
def yX1_put : MethodName := ⟨RX1, "put", "(III)I"⟩
abbrev cX1_paint : ByteArray := prog_3_method_6_code
def yX1_paint : MethodName := ⟨RX1, "paint", "(II)I"⟩
abbrev cX1_blacks : ByteArray := prog_3_method_7_code
def yX1_blacks : MethodName := ⟨RX1, "blacks", "()I"⟩
abbrev cX1_global : ByteArray := prog_3_method_8_code
def yX1_global : MethodName := ⟨RX1, "global", "()I"⟩
abbrev cX1_isDark : ByteArray := prog_3_method_9_code
def yX1_isDark : MethodName := ⟨RX1, "isDark", "(IIII)Z"⟩
abbrev cX1_local : ByteArray := prog_3_method_10_code
def yX1_local : MethodName := ⟨RX1, "local", "(II)I"⟩
abbrev cX1_pass : ByteArray := prog_3_method_11_code
def yX1_pass : MethodName := ⟨RX1, "pass", "(III)V"⟩
abbrev cX1_spread : ByteArray := prog_3_method_12_code
def yX1_spread : MethodName := ⟨RX1, "spread", "(I)I"⟩
abbrev cX1_rest : ByteArray := prog_3_method_13_code
def yX1_rest : MethodName := ⟨RX1, "rest", "()J"⟩
abbrev cX1_isCells : ByteArray := prog_3_method_14_code
def yX1_isCells : MethodName := ⟨RX1, "isCells", "(I)Z"⟩
abbrev cX1_cellOf : ByteArray := prog_3_method_15_code
def yX1_cellOf : MethodName := ⟨RX1, "cellOf", "(III)I"⟩
abbrev cX1_ordered : ByteArray := prog_3_method_16_code
def yX1_ordered : MethodName := ⟨RX1, "ordered", "(I)I"⟩
abbrev cX1_cell : ByteArray := prog_3_method_17_code
def yX1_cell : MethodName := ⟨RX1, "cell", "(III)I"⟩
abbrev cX1_touchesBlack : ByteArray := prog_3_method_18_code
def yX1_touchesBlack : MethodName := ⟨RX1, "touchesBlack", "(II)Z"⟩
abbrev cX1_join : ByteArray := prog_3_method_19_code
def yX1_join : MethodName := ⟨RX1, "join", "(II)I"⟩
abbrev cX1_lesser : ByteArray := prog_3_method_20_code
def yX1_lesser : MethodName := ⟨RX1, "lesser", "(IIIZ)I"⟩
abbrev cX1_findParts : ByteArray := prog_3_method_21_code
def yX1_findParts : MethodName := ⟨RX1, "findParts", "(Z)V"⟩
abbrev cX1_turnSpecks : ByteArray := prog_3_method_22_code
def yX1_turnSpecks : MethodName := ⟨RX1, "turnSpecks", "(ZI)I"⟩
abbrev cX1_clean : ByteArray := prog_3_method_23_code
def yX1_clean : MethodName := ⟨RX1, "clean", "(I)I"⟩
abbrev cX1_isBlackAt : ByteArray := prog_3_method_24_code
def yX1_isBlackAt : MethodName := ⟨RX1, "isBlackAt", "(II)Z"⟩
abbrev cX1_edges : ByteArray := prog_3_method_25_code
def yX1_edges : MethodName := ⟨RX1, "edges", "()I"⟩
abbrev cX1_invert : ByteArray := prog_3_method_26_code
def yX1_invert : MethodName := ⟨RX1, "invert", "()I"⟩
abbrev cX1_at : ByteArray := prog_3_method_27_code
def yX1_at : MethodName := ⟨RX1, "at", "(II)Z"⟩
abbrev cX1_sum : ByteArray := prog_3_method_28_code
def yX1_sum : MethodName := ⟨RX1, "sum", "(IIIIZ)J"⟩
abbrev cX1_parts : ByteArray := prog_3_method_29_code
def yX1_parts : MethodName := ⟨RX1, "parts", "()I"⟩
abbrev cX1_different : ByteArray := prog_3_method_30_code
def yX1_different : MethodName := ⟨RX1, "different", "()I"⟩
abbrev cX1_told : ByteArray := prog_3_method_31_code
def yX1_told : MethodName := ⟨RX1, "told", "(I)I"⟩
abbrev cX1_clear : ByteArray := prog_3_method_32_code
def yX1_clear : MethodName := ⟨RX1, "clear", "()V"⟩
def RJx145de : String := "java/io/Serializable"
def TJx145de : u_T := fun k => match k with
  | _ => ("", "", "", false)
def tyJx145de : Nat → FieldType := fun k => match k with
  | _ => .int
abbrev wsJx145de0 : List Cond := u_ws RJx145de TJx145de 0
theorem nmJx145de : ∀ a, a < 0 → ∀ b, b < 0 → a ≠ b → (TJx145de a).2.1 ≠ (TJx145de b).2.1 := by decide +kernel
theorem tyJx145de_ok : ∀ k, k < 0 → parseFieldDescriptor (TJx145de k).2.2.1 = some (tyJx145de k) := by decide +kernel
def RJ9 : String := "java/lang/Math"
def TJ9 : u_T := fun k => match k with
  | _ => ("", "", "", false)
def tyJ9 : Nat → FieldType := fun k => match k with
  | _ => .int
abbrev wsJ90 : List Cond := u_ws RJ9 TJ9 0
theorem nmJ9 : ∀ a, a < 0 → ∀ b, b < 0 → a ≠ b → (TJ9 a).2.1 ≠ (TJ9 b).2.1 := by decide +kernel
theorem tyJ9_ok : ∀ k, k < 0 → parseFieldDescriptor (TJ9 k).2.2.1 = some (tyJ9 k) := by decide +kernel
abbrev cJ9_floorMod_7cf53 : ByteArray := prog_7_method_50_code
def yJ9_floorMod_7cf53 : MethodName := ⟨RJ9, "floorMod", "(II)I"⟩
abbrev cJ9_max_7cf53 : ByteArray := prog_7_method_65_code
def yJ9_max_7cf53 : MethodName := ⟨RJ9, "max", "(II)I"⟩
abbrev cJ9_min_7cf53 : ByteArray := prog_7_method_69_code
def yJ9_min_7cf53 : MethodName := ⟨RJ9, "min", "(II)I"⟩
def RJ0 : String := "java/lang/String"
def TJ0 : u_T := fun k => match k with
  | _ => ("", "", "", false)
def tyJ0 : Nat → FieldType := fun k => match k with
  | _ => .int
abbrev wsJ00 : List Cond := u_ws RJ0 TJ0 0
theorem nmJ0 : ∀ a, a < 0 → ∀ b, b < 0 → a ≠ b → (TJ0 a).2.1 ≠ (TJ0 b).2.1 := by decide +kernel
theorem tyJ0_ok : ∀ k, k < 0 → parseFieldDescriptor (TJ0 k).2.2.1 = some (tyJ0 k) := by decide +kernel
def RJ7 : String := "java/util/Arrays"
def TJ7 : u_T := fun k => match k with
  | _ => ("", "", "", false)
def tyJ7 : Nat → FieldType := fun k => match k with
  | _ => .int
abbrev wsJ70 : List Cond := u_ws RJ7 TJ7 0
theorem nmJ7 : ∀ a, a < 0 → ∀ b, b < 0 → a ≠ b → (TJ7 a).2.1 ≠ (TJ7 b).2.1 := by decide +kernel
theorem tyJ7_ok : ∀ k, k < 0 → parseFieldDescriptor (TJ7 k).2.2.1 = some (tyJ7 k) := by decide +kernel
abbrev cJ7_fill_53178 : ByteArray := prog_11_method_103_code
def yJ7_fill_53178 : MethodName := ⟨RJ7, "fill", "([II)V"⟩
def RL : String := "LocalBoundsLaw"
abbrev cL_cell : ByteArray := method_2_code
def yL_cell : MethodName := ⟨RL, "cell", "([II)I"⟩
abbrev cL_put : ByteArray := method_3_code
def yL_put : MethodName := ⟨RL, "put", "(LLocalBounds;III[J)I"⟩
abbrev cL_local : ByteArray := method_4_code
def yL_local : MethodName := ⟨RL, "local", "(LLocalBounds;II[J)I"⟩
abbrev cL_spread : ByteArray := method_5_code
def yL_spread : MethodName := ⟨RL, "spread", "(LLocalBounds;I[J)I"⟩
abbrev cL_ordered : ByteArray := method_6_code
def yL_ordered : MethodName := ⟨RL, "ordered", "(LLocalBounds;I[J)I"⟩
abbrev cL_join : ByteArray := method_7_code
def yL_join : MethodName := ⟨RL, "join", "(LLocalBounds;II[J)I"⟩
abbrev cL_clean : ByteArray := method_8_code
def yL_clean : MethodName := ⟨RL, "clean", "(LLocalBounds;I[J)I"⟩
abbrev cL_at : ByteArray := method_9_code
def yL_at : MethodName := ⟨RL, "at", "(LLocalBounds;II[J)I"⟩
abbrev cL_sum : ByteArray := method_10_code
def yL_sum : MethodName := ⟨RL, "sum", "(LLocalBounds;IIIIZ[J)I"⟩
abbrev cL_cell_ : ByteArray := method_11_code
def yL_cell_ : MethodName := ⟨RL, "cell", "(LLocalBounds;III[J)I"⟩
abbrev cL_law : ByteArray := code
def yL_law : MethodName := ⟨RL, "law", "([I)Z"⟩
def wsX0_nearestSide : List Cond := .code yX0_nearestSide cX0_nearestSide 1 (some .int) :: ([.methodLink RX0 165 Lib.Math.min.name, .static Lib.Math.min.name, .initialized "java/lang/Math", .code Lib.Math.min.name Lib.Math.min.code 2 (some .int), .methodLink RX0 168 Lib.Math.max.name, .static Lib.Math.max.name, .code Lib.Math.max.name Lib.Math.max.code 2 (some .int)])
def wsX0_init_r1 : List Cond := [Cond.methodLink RX0 1 objectInit, Cond.instanceMethod objectInit, Cond.code objectInit ⟨#[0xb1]⟩ 1 none, Cond.fieldLink RX0 13 "LocalBounds" "width" "I", Cond.fieldLink RX0 17 "LocalBounds" "height" "I", Cond.fieldLink RX0 20 "LocalBounds" "count" "I", Cond.arrayClass .int, Cond.fieldLink RX0 23 "LocalBounds" "samples" "[I", Cond.arrayClass .boolean, Cond.fieldLink RX0 27 "LocalBounds" "black" "[Z", Cond.fieldLink RX0 31 "LocalBounds" "ofGrey" "[I", Cond.fieldLink RX0 34 "LocalBounds" "came" "[I", Cond.arrayClass .long, Cond.fieldLink RX0 37 "LocalBounds" "sums" "[J", Cond.fieldLink RX0 41 "LocalBounds" "squareSums" "[J", Cond.fieldLink RX0 44 "LocalBounds" "marked" "[Z", Cond.fieldLink RX0 47 "LocalBounds" "queue" "[I", Cond.methodLink RX0 7 yX0_nearestSide, Cond.static yX0_nearestSide, Cond.initialized RX0, Cond.code yX0_nearestSide cX0_nearestSide 1 (some .int), Cond.methodLink RX0 165 Lib.Math.min.name, Cond.static Lib.Math.min.name, Cond.initialized "java/lang/Math"]
def wsX0_init_r2 : List Cond := [Cond.code Lib.Math.min.name Lib.Math.min.code 2 (some .int), Cond.methodLink RX0 168 Lib.Math.max.name, Cond.static Lib.Math.max.name, Cond.code Lib.Math.max.name Lib.Math.max.code 2 (some .int)]
def wsX0_init : List Cond := .code yX0_init cX0_init 3 none :: ((wsX0_init_r1 ++ wsX0_init_r2) ++ wsX00)
def wsX0_isInside : List Cond := .code yX0_isInside cX0_isInside 3 (some .boolean) :: ([.fieldLink RX0 13 "LocalBounds" "width" "I", .fieldLink RX0 17 "LocalBounds" "height" "I"] ++ wsX00)
def wsX0_placeOf : List Cond := .code yX0_placeOf cX0_placeOf 3 (some .int) :: ([.fieldLink RX0 13 "LocalBounds" "width" "I"] ++ wsX00)
def wsX0_put : List Cond := .code yX0_put cX0_put 6 (some .int) :: ([.classLink RX0 54 "java/lang/IndexOutOfBoundsException", .initialized "java/lang/IndexOutOfBoundsException", .classLink RX0 61 "java/lang/IllegalArgumentException", .initialized "java/lang/IllegalArgumentException", .fieldLink RX0 23 "LocalBounds" "samples" "[I", .methodLink RX0 50 yX0_isInside, .instanceMethod yX0_isInside, .selects RX0 yX0_isInside yX0_isInside, .initialized RX0, .code yX0_isInside cX0_isInside 3 (some .boolean), .fieldLink RX0 13 "LocalBounds" "width" "I", .fieldLink RX0 17 "LocalBounds" "height" "I", .methodLink RX0 66 yX0_placeOf, .instanceMethod yX0_placeOf, .selects RX0 yX0_placeOf yX0_placeOf, .code yX0_placeOf cX0_placeOf 3 (some .int)] ++ wsX00 ++ (vx_atS RX0 58 "java/lang/IndexOutOfBoundsException" ["java/lang/RuntimeException", "java/lang/Exception"]).filter goodWord ++ (vx_atS RX0 65 "java/lang/IllegalArgumentException" ["java/lang/RuntimeException", "java/lang/Exception"]).filter goodWord)
def wsJ9_floorMod_7cf53 : List Cond := .code yJ9_floorMod_7cf53 cJ9_floorMod_7cf53 3 (some .int) :: ([])
def wsX0_paint : List Cond := .code yX0_paint cX0_paint 7 (some .int) :: ([.fieldLink RX0 20 "LocalBounds" "count" "I", .fieldLink RX0 23 "LocalBounds" "samples" "[I", .methodLink RX0 70 yJ9_floorMod_7cf53, .static yJ9_floorMod_7cf53, .initialized RJ9, .code yJ9_floorMod_7cf53 cJ9_floorMod_7cf53 3 (some .int)] ++ wsX00)
def wsJ7_fill_53178 : List Cond := .code yJ7_fill_53178 cJ7_fill_53178 4 none :: ([])
def wsX0_fillOfGrey : List Cond := .code yX0_fillOfGrey cX0_fillOfGrey 3 none :: ([.fieldLink RX0 31 "LocalBounds" "ofGrey" "[I", .fieldLink RX0 20 "LocalBounds" "count" "I", .fieldLink RX0 23 "LocalBounds" "samples" "[I", .methodLink RX0 95 yJ7_fill_53178, .static yJ7_fill_53178, .initialized RJ7, .code yJ7_fill_53178 cJ7_fill_53178 4 none] ++ wsX00)
def wsX0_sumOfSamples : List Cond := .code yX0_sumOfSamples cX0_sumOfSamples 4 (some .long) :: ([.fieldLink RX0 20 "LocalBounds" "count" "I", .fieldLink RX0 23 "LocalBounds" "samples" "[I"] ++ wsX00)
def wsX0_bestBound : List Cond := .code yX0_bestBound cX0_bestBound 21 (some .int) :: ([.fieldLink RX0 23 "LocalBounds" "samples" "[I", .fieldLink RX0 31 "LocalBounds" "ofGrey" "[I", .fieldLink RX0 20 "LocalBounds" "count" "I", .methodLink RX0 171 yX0_fillOfGrey, .instanceMethod yX0_fillOfGrey, .selects RX0 yX0_fillOfGrey yX0_fillOfGrey, .initialized RX0, .code yX0_fillOfGrey cX0_fillOfGrey 3 none, .methodLink RX0 95 yJ7_fill_53178, .static yJ7_fill_53178, .initialized RJ7, .code yJ7_fill_53178 cJ7_fill_53178 4 none, .methodLink RX0 174 yX0_sumOfSamples, .instanceMethod yX0_sumOfSamples, .selects RX0 yX0_sumOfSamples yX0_sumOfSamples, .code yX0_sumOfSamples cX0_sumOfSamples 4 (some .long)] ++ wsX00)
def wsX0_global : List Cond := .code yX0_global cX0_global 3 (some .int) :: ([.fieldLink RX0 20 "LocalBounds" "count" "I", .fieldLink RX0 27 "LocalBounds" "black" "[Z", .fieldLink RX0 23 "LocalBounds" "samples" "[I", .methodLink RX0 75 yX0_bestBound, .instanceMethod yX0_bestBound, .selects RX0 yX0_bestBound yX0_bestBound, .initialized RX0, .code yX0_bestBound cX0_bestBound 21 (some .int), .fieldLink RX0 31 "LocalBounds" "ofGrey" "[I", .methodLink RX0 171 yX0_fillOfGrey, .instanceMethod yX0_fillOfGrey, .selects RX0 yX0_fillOfGrey yX0_fillOfGrey, .code yX0_fillOfGrey cX0_fillOfGrey 3 none, .methodLink RX0 95 yJ7_fill_53178, .static yJ7_fill_53178, .initialized RJ7, .code yJ7_fill_53178 cJ7_fill_53178 4 none, .methodLink RX0 174 yX0_sumOfSamples, .instanceMethod yX0_sumOfSamples, .selects RX0 yX0_sumOfSamples yX0_sumOfSamples, .code yX0_sumOfSamples cX0_sumOfSamples 4 (some .long)] ++ wsX00)
def wsX0_cornerOf : List Cond := .code yX0_cornerOf cX0_cornerOf 3 (some .int) :: ([.fieldLink RX0 13 "LocalBounds" "width" "I"] ++ wsX00)
def wsX0_fillSums : List Cond := .code yX0_fillSums cX0_fillSums 11 none :: ([.fieldLink RX0 17 "LocalBounds" "height" "I", .fieldLink RX0 13 "LocalBounds" "width" "I", .fieldLink RX0 23 "LocalBounds" "samples" "[I", .fieldLink RX0 37 "LocalBounds" "sums" "[J", .fieldLink RX0 41 "LocalBounds" "squareSums" "[J", .methodLink RX0 66 yX0_placeOf, .instanceMethod yX0_placeOf, .selects RX0 yX0_placeOf yX0_placeOf, .initialized RX0, .code yX0_placeOf cX0_placeOf 3 (some .int), .methodLink RX0 178 yX0_cornerOf, .instanceMethod yX0_cornerOf, .selects RX0 yX0_cornerOf yX0_cornerOf, .code yX0_cornerOf cX0_cornerOf 3 (some .int)] ++ wsX00)
def wsX0_sumBetween : List Cond := .code yX0_sumBetween cX0_sumBetween 10 (some .long) :: ([.methodLink RX0 178 yX0_cornerOf, .instanceMethod yX0_cornerOf, .selects RX0 yX0_cornerOf yX0_cornerOf, .initialized RX0, .code yX0_cornerOf cX0_cornerOf 3 (some .int), .fieldLink RX0 13 "LocalBounds" "width" "I"] ++ wsX00)
def wsX0_isDarkInWindow_r1 : List Cond := [Cond.methodLink RX0 168 Lib.Math.max.name, Cond.static Lib.Math.max.name, Cond.initialized "java/lang/Math", Cond.code Lib.Math.max.name Lib.Math.max.code 2 (some .int), Cond.fieldLink RX0 13 "LocalBounds" "width" "I", Cond.methodLink RX0 165 Lib.Math.min.name, Cond.static Lib.Math.min.name, Cond.code Lib.Math.min.name Lib.Math.min.code 2 (some .int), Cond.fieldLink RX0 17 "LocalBounds" "height" "I", Cond.fieldLink RX0 37 "LocalBounds" "sums" "[J", Cond.fieldLink RX0 41 "LocalBounds" "squareSums" "[J", Cond.fieldLink RX0 23 "LocalBounds" "samples" "[I", Cond.constantLong RX0 181 (256), Cond.methodLink RX0 153 yX0_sumBetween, Cond.instanceMethod yX0_sumBetween, Cond.selects RX0 yX0_sumBetween yX0_sumBetween, Cond.initialized RX0, Cond.code yX0_sumBetween cX0_sumBetween 10 (some .long), Cond.methodLink RX0 178 yX0_cornerOf, Cond.instanceMethod yX0_cornerOf, Cond.selects RX0 yX0_cornerOf yX0_cornerOf, Cond.code yX0_cornerOf cX0_cornerOf 3 (some .int), Cond.methodLink RX0 66 yX0_placeOf, Cond.instanceMethod yX0_placeOf]
def wsX0_isDarkInWindow_r2 : List Cond := [Cond.selects RX0 yX0_placeOf yX0_placeOf, Cond.code yX0_placeOf cX0_placeOf 3 (some .int)]
def wsX0_isDarkInWindow : List Cond := .code yX0_isDarkInWindow cX0_isDarkInWindow 20 (some .boolean) :: ((wsX0_isDarkInWindow_r1 ++ wsX0_isDarkInWindow_r2) ++ wsX00)
def wsX0_countBlack : List Cond := .code yX0_countBlack cX0_countBlack 3 (some .int) :: ([.fieldLink RX0 20 "LocalBounds" "count" "I", .fieldLink RX0 27 "LocalBounds" "black" "[Z"] ++ wsX00)
def wsX0_local_r1 : List Cond := [Cond.classLink RX0 61 "java/lang/IllegalArgumentException", Cond.initialized "java/lang/IllegalArgumentException", Cond.fieldLink RX0 17 "LocalBounds" "height" "I", Cond.fieldLink RX0 13 "LocalBounds" "width" "I", Cond.fieldLink RX0 27 "LocalBounds" "black" "[Z", Cond.methodLink RX0 83 yX0_fillSums, Cond.instanceMethod yX0_fillSums, Cond.selects RX0 yX0_fillSums yX0_fillSums, Cond.initialized RX0, Cond.code yX0_fillSums cX0_fillSums 11 none, Cond.fieldLink RX0 23 "LocalBounds" "samples" "[I", Cond.fieldLink RX0 37 "LocalBounds" "sums" "[J", Cond.fieldLink RX0 41 "LocalBounds" "squareSums" "[J", Cond.methodLink RX0 66 yX0_placeOf, Cond.instanceMethod yX0_placeOf, Cond.selects RX0 yX0_placeOf yX0_placeOf, Cond.code yX0_placeOf cX0_placeOf 3 (some .int), Cond.methodLink RX0 178 yX0_cornerOf, Cond.instanceMethod yX0_cornerOf, Cond.selects RX0 yX0_cornerOf yX0_cornerOf, Cond.code yX0_cornerOf cX0_cornerOf 3 (some .int), Cond.methodLink RX0 86 yX0_isDarkInWindow, Cond.instanceMethod yX0_isDarkInWindow, Cond.selects RX0 yX0_isDarkInWindow yX0_isDarkInWindow]
def wsX0_local_r2 : List Cond := [Cond.code yX0_isDarkInWindow cX0_isDarkInWindow 20 (some .boolean), Cond.methodLink RX0 168 Lib.Math.max.name, Cond.static Lib.Math.max.name, Cond.initialized "java/lang/Math", Cond.code Lib.Math.max.name Lib.Math.max.code 2 (some .int), Cond.methodLink RX0 165 Lib.Math.min.name, Cond.static Lib.Math.min.name, Cond.code Lib.Math.min.name Lib.Math.min.code 2 (some .int), Cond.constantLong RX0 181 (256), Cond.methodLink RX0 153 yX0_sumBetween, Cond.instanceMethod yX0_sumBetween, Cond.selects RX0 yX0_sumBetween yX0_sumBetween, Cond.code yX0_sumBetween cX0_sumBetween 10 (some .long), Cond.methodLink RX0 90 yX0_countBlack, Cond.instanceMethod yX0_countBlack, Cond.selects RX0 yX0_countBlack yX0_countBlack, Cond.code yX0_countBlack cX0_countBlack 3 (some .int), Cond.fieldLink RX0 20 "LocalBounds" "count" "I"]
def wsX0_local : List Cond := .code yX0_local cX0_local 6 (some .int) :: ((wsX0_local_r1 ++ wsX0_local_r2) ++ wsX00 ++ (vx_atS RX0 65 "java/lang/IllegalArgumentException" ["java/lang/RuntimeException", "java/lang/Exception"]).filter goodWord)
def wsX0_passTo : List Cond := .code yX0_passTo cX0_passTo 4 none :: ([.fieldLink RX0 34 "LocalBounds" "came" "[I", .fieldLink RX0 101 "LocalBounds" "lost" "J", .methodLink RX0 50 yX0_isInside, .instanceMethod yX0_isInside, .selects RX0 yX0_isInside yX0_isInside, .initialized RX0, .code yX0_isInside cX0_isInside 3 (some .boolean), .fieldLink RX0 13 "LocalBounds" "width" "I", .fieldLink RX0 17 "LocalBounds" "height" "I", .methodLink RX0 66 yX0_placeOf, .instanceMethod yX0_placeOf, .selects RX0 yX0_placeOf yX0_placeOf, .code yX0_placeOf cX0_placeOf 3 (some .int)] ++ wsX00)
def wsX0_spreadSample : List Cond := .code yX0_spreadSample cX0_spreadSample 11 none :: ([.fieldLink RX0 23 "LocalBounds" "samples" "[I", .fieldLink RX0 34 "LocalBounds" "came" "[I", .fieldLink RX0 27 "LocalBounds" "black" "[Z", .methodLink RX0 66 yX0_placeOf, .instanceMethod yX0_placeOf, .selects RX0 yX0_placeOf yX0_placeOf, .initialized RX0, .code yX0_placeOf cX0_placeOf 3 (some .int), .fieldLink RX0 13 "LocalBounds" "width" "I", .methodLink RX0 187 yX0_passTo, .instanceMethod yX0_passTo, .selects RX0 yX0_passTo yX0_passTo, .code yX0_passTo cX0_passTo 4 none, .fieldLink RX0 101 "LocalBounds" "lost" "J", .methodLink RX0 50 yX0_isInside, .instanceMethod yX0_isInside, .selects RX0 yX0_isInside yX0_isInside, .code yX0_isInside cX0_isInside 3 (some .boolean), .fieldLink RX0 17 "LocalBounds" "height" "I"] ++ wsX00)
def wsX0_spreadRow : List Cond := .code yX0_spreadRow cX0_spreadRow 7 none :: ([.fieldLink RX0 13 "LocalBounds" "width" "I", .methodLink RX0 183 yX0_spreadSample, .instanceMethod yX0_spreadSample, .selects RX0 yX0_spreadSample yX0_spreadSample, .initialized RX0, .code yX0_spreadSample cX0_spreadSample 11 none, .fieldLink RX0 23 "LocalBounds" "samples" "[I", .fieldLink RX0 34 "LocalBounds" "came" "[I", .fieldLink RX0 27 "LocalBounds" "black" "[Z", .methodLink RX0 66 yX0_placeOf, .instanceMethod yX0_placeOf, .selects RX0 yX0_placeOf yX0_placeOf, .code yX0_placeOf cX0_placeOf 3 (some .int), .methodLink RX0 187 yX0_passTo, .instanceMethod yX0_passTo, .selects RX0 yX0_passTo yX0_passTo, .code yX0_passTo cX0_passTo 4 none, .fieldLink RX0 101 "LocalBounds" "lost" "J", .methodLink RX0 50 yX0_isInside, .instanceMethod yX0_isInside, .selects RX0 yX0_isInside yX0_isInside, .code yX0_isInside cX0_isInside 3 (some .boolean), .fieldLink RX0 17 "LocalBounds" "height" "I"] ++ wsX00)
def wsX0_spread_r1 : List Cond := [Cond.classLink RX0 61 "java/lang/IllegalArgumentException", Cond.initialized "java/lang/IllegalArgumentException", Cond.fieldLink RX0 34 "LocalBounds" "came" "[I", Cond.fieldLink RX0 101 "LocalBounds" "lost" "J", Cond.fieldLink RX0 17 "LocalBounds" "height" "I", Cond.methodLink RX0 95 yJ7_fill_53178, Cond.static yJ7_fill_53178, Cond.initialized RJ7, Cond.code yJ7_fill_53178 cJ7_fill_53178 4 none, Cond.methodLink RX0 105 yX0_spreadRow, Cond.instanceMethod yX0_spreadRow, Cond.selects RX0 yX0_spreadRow yX0_spreadRow, Cond.initialized RX0, Cond.code yX0_spreadRow cX0_spreadRow 7 none, Cond.fieldLink RX0 13 "LocalBounds" "width" "I", Cond.methodLink RX0 183 yX0_spreadSample, Cond.instanceMethod yX0_spreadSample, Cond.selects RX0 yX0_spreadSample yX0_spreadSample, Cond.code yX0_spreadSample cX0_spreadSample 11 none, Cond.fieldLink RX0 23 "LocalBounds" "samples" "[I", Cond.fieldLink RX0 27 "LocalBounds" "black" "[Z", Cond.methodLink RX0 66 yX0_placeOf, Cond.instanceMethod yX0_placeOf, Cond.selects RX0 yX0_placeOf yX0_placeOf]
def wsX0_spread_r2 : List Cond := [Cond.code yX0_placeOf cX0_placeOf 3 (some .int), Cond.methodLink RX0 187 yX0_passTo, Cond.instanceMethod yX0_passTo, Cond.selects RX0 yX0_passTo yX0_passTo, Cond.code yX0_passTo cX0_passTo 4 none, Cond.methodLink RX0 50 yX0_isInside, Cond.instanceMethod yX0_isInside, Cond.selects RX0 yX0_isInside yX0_isInside, Cond.code yX0_isInside cX0_isInside 3 (some .boolean), Cond.methodLink RX0 90 yX0_countBlack, Cond.instanceMethod yX0_countBlack, Cond.selects RX0 yX0_countBlack yX0_countBlack, Cond.code yX0_countBlack cX0_countBlack 3 (some .int), Cond.fieldLink RX0 20 "LocalBounds" "count" "I"]
def wsX0_spread : List Cond := .code yX0_spread cX0_spread 3 (some .int) :: ((wsX0_spread_r1 ++ wsX0_spread_r2) ++ wsX00 ++ (vx_atS RX0 65 "java/lang/IllegalArgumentException" ["java/lang/RuntimeException", "java/lang/Exception"]).filter goodWord)
def wsX0_rest : List Cond := .code yX0_rest cX0_rest 1 (some .long) :: ([.fieldLink RX0 101 "LocalBounds" "lost" "J"] ++ wsX00)
def wsX0_isCells : List Cond := .code yX0_isCells cX0_isCells 1 (some .boolean) :: ([])
def wsX0_quarterNumber : List Cond := .code yX0_quarterNumber cX0_quarterNumber 2 (some .int) :: ([])
def wsX0_cellNumber : List Cond := .code yX0_cellNumber cX0_cellNumber 5 (some .int) :: ([.methodLink RX0 190 yX0_quarterNumber, .static yX0_quarterNumber, .initialized RX0, .code yX0_quarterNumber cX0_quarterNumber 2 (some .int)])
def wsX0_ordered_r1 : List Cond := [Cond.classLink RX0 61 "java/lang/IllegalArgumentException", Cond.initialized "java/lang/IllegalArgumentException", Cond.fieldLink RX0 17 "LocalBounds" "height" "I", Cond.fieldLink RX0 13 "LocalBounds" "width" "I", Cond.fieldLink RX0 27 "LocalBounds" "black" "[Z", Cond.fieldLink RX0 23 "LocalBounds" "samples" "[I", Cond.methodLink RX0 109 yX0_isCells, Cond.static yX0_isCells, Cond.initialized RX0, Cond.code yX0_isCells cX0_isCells 1 (some .boolean), Cond.methodLink RX0 66 yX0_placeOf, Cond.instanceMethod yX0_placeOf, Cond.selects RX0 yX0_placeOf yX0_placeOf, Cond.code yX0_placeOf cX0_placeOf 3 (some .int), Cond.methodLink RX0 115 yX0_cellNumber, Cond.static yX0_cellNumber, Cond.code yX0_cellNumber cX0_cellNumber 5 (some .int), Cond.methodLink RX0 190 yX0_quarterNumber, Cond.static yX0_quarterNumber, Cond.code yX0_quarterNumber cX0_quarterNumber 2 (some .int), Cond.methodLink RX0 90 yX0_countBlack, Cond.instanceMethod yX0_countBlack, Cond.selects RX0 yX0_countBlack yX0_countBlack, Cond.code yX0_countBlack cX0_countBlack 3 (some .int)]
def wsX0_ordered_r2 : List Cond := [Cond.fieldLink RX0 20 "LocalBounds" "count" "I"]
def wsX0_ordered : List Cond := .code yX0_ordered cX0_ordered 6 (some .int) :: ((wsX0_ordered_r1 ++ wsX0_ordered_r2) ++ wsX00 ++ (vx_atS RX0 65 "java/lang/IllegalArgumentException" ["java/lang/RuntimeException", "java/lang/Exception"]).filter goodWord)
def wsX0_enqueue : List Cond := .code yX0_enqueue cX0_enqueue 2 none :: ([.fieldLink RX0 121 "LocalBounds" "queued" "I", .fieldLink RX0 47 "LocalBounds" "queue" "[I"] ++ wsX00)
def wsX0_columnOf : List Cond := .code yX0_columnOf cX0_columnOf 2 (some .int) :: ([.fieldLink RX0 13 "LocalBounds" "width" "I"] ++ wsX00)
def wsX0_rowOf : List Cond := .code yX0_rowOf cX0_rowOf 2 (some .int) :: ([.fieldLink RX0 13 "LocalBounds" "width" "I"] ++ wsX00)
def wsX0_blackenUpTo : List Cond := .code yX0_blackenUpTo cX0_blackenUpTo 3 none :: ([.fieldLink RX0 27 "LocalBounds" "black" "[Z", .fieldLink RX0 23 "LocalBounds" "samples" "[I", .methodLink RX0 124 yX0_enqueue, .instanceMethod yX0_enqueue, .selects RX0 yX0_enqueue yX0_enqueue, .initialized RX0, .code yX0_enqueue cX0_enqueue 2 none, .fieldLink RX0 121 "LocalBounds" "queued" "I", .fieldLink RX0 47 "LocalBounds" "queue" "[I"] ++ wsX00)
def wsX0_blackenRound : List Cond := .code yX0_blackenRound cX0_blackenRound 6 none :: ([.methodLink RX0 50 yX0_isInside, .instanceMethod yX0_isInside, .selects RX0 yX0_isInside yX0_isInside, .initialized RX0, .code yX0_isInside cX0_isInside 3 (some .boolean), .fieldLink RX0 13 "LocalBounds" "width" "I", .fieldLink RX0 17 "LocalBounds" "height" "I", .methodLink RX0 66 yX0_placeOf, .instanceMethod yX0_placeOf, .selects RX0 yX0_placeOf yX0_placeOf, .code yX0_placeOf cX0_placeOf 3 (some .int), .methodLink RX0 194 yX0_blackenUpTo, .instanceMethod yX0_blackenUpTo, .selects RX0 yX0_blackenUpTo yX0_blackenUpTo, .code yX0_blackenUpTo cX0_blackenUpTo 3 none, .fieldLink RX0 27 "LocalBounds" "black" "[Z", .fieldLink RX0 23 "LocalBounds" "samples" "[I", .methodLink RX0 124 yX0_enqueue, .instanceMethod yX0_enqueue, .selects RX0 yX0_enqueue yX0_enqueue, .code yX0_enqueue cX0_enqueue 2 none, .fieldLink RX0 121 "LocalBounds" "queued" "I", .fieldLink RX0 47 "LocalBounds" "queue" "[I"] ++ wsX00)
def wsX0_join_r1 : List Cond := [Cond.classLink RX0 61 "java/lang/IllegalArgumentException", Cond.initialized "java/lang/IllegalArgumentException", Cond.fieldLink RX0 121 "LocalBounds" "queued" "I", Cond.fieldLink RX0 20 "LocalBounds" "count" "I", Cond.fieldLink RX0 27 "LocalBounds" "black" "[Z", Cond.fieldLink RX0 23 "LocalBounds" "samples" "[I", Cond.fieldLink RX0 47 "LocalBounds" "queue" "[I", Cond.methodLink RX0 124 yX0_enqueue, Cond.instanceMethod yX0_enqueue, Cond.selects RX0 yX0_enqueue yX0_enqueue, Cond.initialized RX0, Cond.code yX0_enqueue cX0_enqueue 2 none, Cond.methodLink RX0 128 yX0_columnOf, Cond.instanceMethod yX0_columnOf, Cond.selects RX0 yX0_columnOf yX0_columnOf, Cond.code yX0_columnOf cX0_columnOf 2 (some .int), Cond.fieldLink RX0 13 "LocalBounds" "width" "I", Cond.methodLink RX0 131 yX0_rowOf, Cond.instanceMethod yX0_rowOf, Cond.selects RX0 yX0_rowOf yX0_rowOf, Cond.code yX0_rowOf cX0_rowOf 2 (some .int), Cond.methodLink RX0 134 yX0_blackenRound, Cond.instanceMethod yX0_blackenRound, Cond.selects RX0 yX0_blackenRound yX0_blackenRound]
def wsX0_join_r2 : List Cond := [Cond.code yX0_blackenRound cX0_blackenRound 6 none, Cond.methodLink RX0 50 yX0_isInside, Cond.instanceMethod yX0_isInside, Cond.selects RX0 yX0_isInside yX0_isInside, Cond.code yX0_isInside cX0_isInside 3 (some .boolean), Cond.fieldLink RX0 17 "LocalBounds" "height" "I", Cond.methodLink RX0 66 yX0_placeOf, Cond.instanceMethod yX0_placeOf, Cond.selects RX0 yX0_placeOf yX0_placeOf, Cond.code yX0_placeOf cX0_placeOf 3 (some .int), Cond.methodLink RX0 194 yX0_blackenUpTo, Cond.instanceMethod yX0_blackenUpTo, Cond.selects RX0 yX0_blackenUpTo yX0_blackenUpTo, Cond.code yX0_blackenUpTo cX0_blackenUpTo 3 none, Cond.methodLink RX0 90 yX0_countBlack, Cond.instanceMethod yX0_countBlack, Cond.selects RX0 yX0_countBlack yX0_countBlack, Cond.code yX0_countBlack cX0_countBlack 3 (some .int)]
def wsX0_join : List Cond := .code yX0_join cX0_join 4 (some .int) :: ((wsX0_join_r1 ++ wsX0_join_r2) ++ wsX00 ++ (vx_atS RX0 65 "java/lang/IllegalArgumentException" ["java/lang/RuntimeException", "java/lang/Exception"]).filter goodWord)
def wsX0_unmarkAll : List Cond := .code yX0_unmarkAll cX0_unmarkAll 2 none :: ([.fieldLink RX0 20 "LocalBounds" "count" "I", .fieldLink RX0 44 "LocalBounds" "marked" "[Z"] ++ wsX00)
def wsX0_gather : List Cond := .code yX0_gather cX0_gather 5 none :: ([.fieldLink RX0 27 "LocalBounds" "black" "[Z", .fieldLink RX0 44 "LocalBounds" "marked" "[Z", .methodLink RX0 50 yX0_isInside, .instanceMethod yX0_isInside, .selects RX0 yX0_isInside yX0_isInside, .initialized RX0, .code yX0_isInside cX0_isInside 3 (some .boolean), .fieldLink RX0 13 "LocalBounds" "width" "I", .fieldLink RX0 17 "LocalBounds" "height" "I", .methodLink RX0 66 yX0_placeOf, .instanceMethod yX0_placeOf, .selects RX0 yX0_placeOf yX0_placeOf, .code yX0_placeOf cX0_placeOf 3 (some .int), .methodLink RX0 124 yX0_enqueue, .instanceMethod yX0_enqueue, .selects RX0 yX0_enqueue yX0_enqueue, .code yX0_enqueue cX0_enqueue 2 none, .fieldLink RX0 121 "LocalBounds" "queued" "I", .fieldLink RX0 47 "LocalBounds" "queue" "[I"] ++ wsX00)
def wsX0_gatherPart_r1 : List Cond := [Cond.fieldLink RX0 121 "LocalBounds" "queued" "I", Cond.fieldLink RX0 44 "LocalBounds" "marked" "[Z", Cond.fieldLink RX0 20 "LocalBounds" "count" "I", Cond.fieldLink RX0 47 "LocalBounds" "queue" "[I", Cond.methodLink RX0 124 yX0_enqueue, Cond.instanceMethod yX0_enqueue, Cond.selects RX0 yX0_enqueue yX0_enqueue, Cond.initialized RX0, Cond.code yX0_enqueue cX0_enqueue 2 none, Cond.methodLink RX0 128 yX0_columnOf, Cond.instanceMethod yX0_columnOf, Cond.selects RX0 yX0_columnOf yX0_columnOf, Cond.code yX0_columnOf cX0_columnOf 2 (some .int), Cond.fieldLink RX0 13 "LocalBounds" "width" "I", Cond.methodLink RX0 131 yX0_rowOf, Cond.instanceMethod yX0_rowOf, Cond.selects RX0 yX0_rowOf yX0_rowOf, Cond.code yX0_rowOf cX0_rowOf 2 (some .int), Cond.methodLink RX0 197 yX0_gather, Cond.instanceMethod yX0_gather, Cond.selects RX0 yX0_gather yX0_gather, Cond.code yX0_gather cX0_gather 5 none, Cond.fieldLink RX0 27 "LocalBounds" "black" "[Z", Cond.methodLink RX0 50 yX0_isInside]
def wsX0_gatherPart_r2 : List Cond := [Cond.instanceMethod yX0_isInside, Cond.selects RX0 yX0_isInside yX0_isInside, Cond.code yX0_isInside cX0_isInside 3 (some .boolean), Cond.fieldLink RX0 17 "LocalBounds" "height" "I", Cond.methodLink RX0 66 yX0_placeOf, Cond.instanceMethod yX0_placeOf, Cond.selects RX0 yX0_placeOf yX0_placeOf, Cond.code yX0_placeOf cX0_placeOf 3 (some .int)]
def wsX0_gatherPart : List Cond := .code yX0_gatherPart cX0_gatherPart 6 none :: ((wsX0_gatherPart_r1 ++ wsX0_gatherPart_r2) ++ wsX00)
def wsX0_queuedComeToEdge : List Cond := .code yX0_queuedComeToEdge cX0_queuedComeToEdge 4 (some .boolean) :: ([.fieldLink RX0 20 "LocalBounds" "count" "I", .fieldLink RX0 121 "LocalBounds" "queued" "I", .fieldLink RX0 47 "LocalBounds" "queue" "[I", .fieldLink RX0 13 "LocalBounds" "width" "I", .fieldLink RX0 17 "LocalBounds" "height" "I", .methodLink RX0 128 yX0_columnOf, .instanceMethod yX0_columnOf, .selects RX0 yX0_columnOf yX0_columnOf, .initialized RX0, .code yX0_columnOf cX0_columnOf 2 (some .int), .methodLink RX0 131 yX0_rowOf, .instanceMethod yX0_rowOf, .selects RX0 yX0_rowOf yX0_rowOf, .code yX0_rowOf cX0_rowOf 2 (some .int)] ++ wsX00)
def wsX0_isSpeck : List Cond := .code yX0_isSpeck cX0_isSpeck 3 (some .boolean) :: ([.fieldLink RX0 121 "LocalBounds" "queued" "I", .methodLink RX0 216 yX0_queuedComeToEdge, .instanceMethod yX0_queuedComeToEdge, .selects RX0 yX0_queuedComeToEdge yX0_queuedComeToEdge, .initialized RX0, .code yX0_queuedComeToEdge cX0_queuedComeToEdge 4 (some .boolean), .fieldLink RX0 20 "LocalBounds" "count" "I", .fieldLink RX0 47 "LocalBounds" "queue" "[I", .fieldLink RX0 13 "LocalBounds" "width" "I", .fieldLink RX0 17 "LocalBounds" "height" "I", .methodLink RX0 128 yX0_columnOf, .instanceMethod yX0_columnOf, .selects RX0 yX0_columnOf yX0_columnOf, .code yX0_columnOf cX0_columnOf 2 (some .int), .methodLink RX0 131 yX0_rowOf, .instanceMethod yX0_rowOf, .selects RX0 yX0_rowOf yX0_rowOf, .code yX0_rowOf cX0_rowOf 2 (some .int)] ++ wsX00)
def wsX0_turnQueued : List Cond := .code yX0_turnQueued cX0_turnQueued 3 (some .int) :: ([.fieldLink RX0 20 "LocalBounds" "count" "I", .fieldLink RX0 121 "LocalBounds" "queued" "I", .fieldLink RX0 27 "LocalBounds" "black" "[Z", .fieldLink RX0 47 "LocalBounds" "queue" "[I"] ++ wsX00)
def wsX0_turnSpecks_r1 : List Cond := [Cond.fieldLink RX0 20 "LocalBounds" "count" "I", Cond.fieldLink RX0 27 "LocalBounds" "black" "[Z", Cond.fieldLink RX0 44 "LocalBounds" "marked" "[Z", Cond.methodLink RX0 201 yX0_unmarkAll, Cond.instanceMethod yX0_unmarkAll, Cond.selects RX0 yX0_unmarkAll yX0_unmarkAll, Cond.initialized RX0, Cond.code yX0_unmarkAll cX0_unmarkAll 2 none, Cond.methodLink RX0 204 yX0_gatherPart, Cond.instanceMethod yX0_gatherPart, Cond.selects RX0 yX0_gatherPart yX0_gatherPart, Cond.code yX0_gatherPart cX0_gatherPart 6 none, Cond.fieldLink RX0 121 "LocalBounds" "queued" "I", Cond.fieldLink RX0 47 "LocalBounds" "queue" "[I", Cond.methodLink RX0 124 yX0_enqueue, Cond.instanceMethod yX0_enqueue, Cond.selects RX0 yX0_enqueue yX0_enqueue, Cond.code yX0_enqueue cX0_enqueue 2 none, Cond.methodLink RX0 128 yX0_columnOf, Cond.instanceMethod yX0_columnOf, Cond.selects RX0 yX0_columnOf yX0_columnOf, Cond.code yX0_columnOf cX0_columnOf 2 (some .int), Cond.fieldLink RX0 13 "LocalBounds" "width" "I", Cond.methodLink RX0 131 yX0_rowOf]
def wsX0_turnSpecks_r2 : List Cond := [Cond.instanceMethod yX0_rowOf, Cond.selects RX0 yX0_rowOf yX0_rowOf, Cond.code yX0_rowOf cX0_rowOf 2 (some .int), Cond.methodLink RX0 197 yX0_gather, Cond.instanceMethod yX0_gather, Cond.selects RX0 yX0_gather yX0_gather, Cond.code yX0_gather cX0_gather 5 none, Cond.methodLink RX0 50 yX0_isInside, Cond.instanceMethod yX0_isInside, Cond.selects RX0 yX0_isInside yX0_isInside, Cond.code yX0_isInside cX0_isInside 3 (some .boolean), Cond.fieldLink RX0 17 "LocalBounds" "height" "I", Cond.methodLink RX0 66 yX0_placeOf, Cond.instanceMethod yX0_placeOf, Cond.selects RX0 yX0_placeOf yX0_placeOf, Cond.code yX0_placeOf cX0_placeOf 3 (some .int), Cond.methodLink RX0 208 yX0_isSpeck, Cond.instanceMethod yX0_isSpeck, Cond.selects RX0 yX0_isSpeck yX0_isSpeck, Cond.code yX0_isSpeck cX0_isSpeck 3 (some .boolean), Cond.methodLink RX0 216 yX0_queuedComeToEdge, Cond.instanceMethod yX0_queuedComeToEdge, Cond.selects RX0 yX0_queuedComeToEdge yX0_queuedComeToEdge, Cond.code yX0_queuedComeToEdge cX0_queuedComeToEdge 4 (some .boolean)]
def wsX0_turnSpecks_r3 : List Cond := [Cond.methodLink RX0 212 yX0_turnQueued, Cond.instanceMethod yX0_turnQueued, Cond.selects RX0 yX0_turnQueued yX0_turnQueued, Cond.code yX0_turnQueued cX0_turnQueued 3 (some .int)]
def wsX0_turnSpecks : List Cond := .code yX0_turnSpecks cX0_turnSpecks 5 (some .int) :: ((wsX0_turnSpecks_r1 ++ (wsX0_turnSpecks_r2 ++ wsX0_turnSpecks_r3)) ++ wsX00)
def wsX0_clean_r1 : List Cond := [Cond.classLink RX0 61 "java/lang/IllegalArgumentException", Cond.initialized "java/lang/IllegalArgumentException", Cond.methodLink RX0 140 yX0_turnSpecks, Cond.instanceMethod yX0_turnSpecks, Cond.selects RX0 yX0_turnSpecks yX0_turnSpecks, Cond.initialized RX0, Cond.code yX0_turnSpecks cX0_turnSpecks 5 (some .int), Cond.fieldLink RX0 20 "LocalBounds" "count" "I", Cond.fieldLink RX0 27 "LocalBounds" "black" "[Z", Cond.fieldLink RX0 44 "LocalBounds" "marked" "[Z", Cond.methodLink RX0 201 yX0_unmarkAll, Cond.instanceMethod yX0_unmarkAll, Cond.selects RX0 yX0_unmarkAll yX0_unmarkAll, Cond.code yX0_unmarkAll cX0_unmarkAll 2 none, Cond.methodLink RX0 204 yX0_gatherPart, Cond.instanceMethod yX0_gatherPart, Cond.selects RX0 yX0_gatherPart yX0_gatherPart, Cond.code yX0_gatherPart cX0_gatherPart 6 none, Cond.fieldLink RX0 121 "LocalBounds" "queued" "I", Cond.fieldLink RX0 47 "LocalBounds" "queue" "[I", Cond.methodLink RX0 124 yX0_enqueue, Cond.instanceMethod yX0_enqueue, Cond.selects RX0 yX0_enqueue yX0_enqueue, Cond.code yX0_enqueue cX0_enqueue 2 none]
def wsX0_clean_r2 : List Cond := [Cond.methodLink RX0 128 yX0_columnOf, Cond.instanceMethod yX0_columnOf, Cond.selects RX0 yX0_columnOf yX0_columnOf, Cond.code yX0_columnOf cX0_columnOf 2 (some .int), Cond.fieldLink RX0 13 "LocalBounds" "width" "I", Cond.methodLink RX0 131 yX0_rowOf, Cond.instanceMethod yX0_rowOf, Cond.selects RX0 yX0_rowOf yX0_rowOf, Cond.code yX0_rowOf cX0_rowOf 2 (some .int), Cond.methodLink RX0 197 yX0_gather, Cond.instanceMethod yX0_gather, Cond.selects RX0 yX0_gather yX0_gather, Cond.code yX0_gather cX0_gather 5 none, Cond.methodLink RX0 50 yX0_isInside, Cond.instanceMethod yX0_isInside, Cond.selects RX0 yX0_isInside yX0_isInside, Cond.code yX0_isInside cX0_isInside 3 (some .boolean), Cond.fieldLink RX0 17 "LocalBounds" "height" "I", Cond.methodLink RX0 66 yX0_placeOf, Cond.instanceMethod yX0_placeOf, Cond.selects RX0 yX0_placeOf yX0_placeOf, Cond.code yX0_placeOf cX0_placeOf 3 (some .int), Cond.methodLink RX0 208 yX0_isSpeck, Cond.instanceMethod yX0_isSpeck]
def wsX0_clean_r3 : List Cond := [Cond.selects RX0 yX0_isSpeck yX0_isSpeck, Cond.code yX0_isSpeck cX0_isSpeck 3 (some .boolean), Cond.methodLink RX0 216 yX0_queuedComeToEdge, Cond.instanceMethod yX0_queuedComeToEdge, Cond.selects RX0 yX0_queuedComeToEdge yX0_queuedComeToEdge, Cond.code yX0_queuedComeToEdge cX0_queuedComeToEdge 4 (some .boolean), Cond.methodLink RX0 212 yX0_turnQueued, Cond.instanceMethod yX0_turnQueued, Cond.selects RX0 yX0_turnQueued yX0_turnQueued, Cond.code yX0_turnQueued cX0_turnQueued 3 (some .int)]
def wsX0_clean : List Cond := .code yX0_clean cX0_clean 4 (some .int) :: ((wsX0_clean_r1 ++ (wsX0_clean_r2 ++ wsX0_clean_r3)) ++ wsX00 ++ (vx_atS RX0 65 "java/lang/IllegalArgumentException" ["java/lang/RuntimeException", "java/lang/Exception"]).filter goodWord)
def wsX0_isBlack : List Cond := .code yX0_isBlack cX0_isBlack 3 (some .boolean) :: ([.fieldLink RX0 27 "LocalBounds" "black" "[Z", .methodLink RX0 50 yX0_isInside, .instanceMethod yX0_isInside, .selects RX0 yX0_isInside yX0_isInside, .initialized RX0, .code yX0_isInside cX0_isInside 3 (some .boolean), .fieldLink RX0 13 "LocalBounds" "width" "I", .fieldLink RX0 17 "LocalBounds" "height" "I", .methodLink RX0 66 yX0_placeOf, .instanceMethod yX0_placeOf, .selects RX0 yX0_placeOf yX0_placeOf, .code yX0_placeOf cX0_placeOf 3 (some .int)] ++ wsX00)
def wsX0_isEdge : List Cond := .code yX0_isEdge cX0_isEdge 3 (some .boolean) :: ([.methodLink RX0 220 yX0_isBlack, .instanceMethod yX0_isBlack, .selects RX0 yX0_isBlack yX0_isBlack, .initialized RX0, .code yX0_isBlack cX0_isBlack 3 (some .boolean), .fieldLink RX0 27 "LocalBounds" "black" "[Z", .methodLink RX0 50 yX0_isInside, .instanceMethod yX0_isInside, .selects RX0 yX0_isInside yX0_isInside, .code yX0_isInside cX0_isInside 3 (some .boolean), .fieldLink RX0 13 "LocalBounds" "width" "I", .fieldLink RX0 17 "LocalBounds" "height" "I", .methodLink RX0 66 yX0_placeOf, .instanceMethod yX0_placeOf, .selects RX0 yX0_placeOf yX0_placeOf, .code yX0_placeOf cX0_placeOf 3 (some .int)] ++ wsX00)
def wsX0_edges_r1 : List Cond := [Cond.fieldLink RX0 17 "LocalBounds" "height" "I", Cond.fieldLink RX0 13 "LocalBounds" "width" "I", Cond.fieldLink RX0 44 "LocalBounds" "marked" "[Z", Cond.fieldLink RX0 20 "LocalBounds" "count" "I", Cond.fieldLink RX0 27 "LocalBounds" "black" "[Z", Cond.methodLink RX0 66 yX0_placeOf, Cond.instanceMethod yX0_placeOf, Cond.selects RX0 yX0_placeOf yX0_placeOf, Cond.initialized RX0, Cond.code yX0_placeOf cX0_placeOf 3 (some .int), Cond.methodLink RX0 144 yX0_isEdge, Cond.instanceMethod yX0_isEdge, Cond.selects RX0 yX0_isEdge yX0_isEdge, Cond.code yX0_isEdge cX0_isEdge 3 (some .boolean), Cond.methodLink RX0 220 yX0_isBlack, Cond.instanceMethod yX0_isBlack, Cond.selects RX0 yX0_isBlack yX0_isBlack, Cond.code yX0_isBlack cX0_isBlack 3 (some .boolean), Cond.methodLink RX0 50 yX0_isInside, Cond.instanceMethod yX0_isInside, Cond.selects RX0 yX0_isInside yX0_isInside, Cond.code yX0_isInside cX0_isInside 3 (some .boolean), Cond.methodLink RX0 90 yX0_countBlack, Cond.instanceMethod yX0_countBlack]
def wsX0_edges_r2 : List Cond := [Cond.selects RX0 yX0_countBlack yX0_countBlack, Cond.code yX0_countBlack cX0_countBlack 3 (some .int)]
def wsX0_edges : List Cond := .code yX0_edges cX0_edges 3 (some .int) :: ((wsX0_edges_r1 ++ wsX0_edges_r2) ++ wsX00)
def wsX0_invert : List Cond := .code yX0_invert cX0_invert 2 (some .int) :: ([.fieldLink RX0 20 "LocalBounds" "count" "I", .fieldLink RX0 27 "LocalBounds" "black" "[Z", .methodLink RX0 90 yX0_countBlack, .instanceMethod yX0_countBlack, .selects RX0 yX0_countBlack yX0_countBlack, .initialized RX0, .code yX0_countBlack cX0_countBlack 3 (some .int)] ++ wsX00)
def wsX0_at : List Cond := .code yX0_at cX0_at 3 (some .boolean) :: ([.classLink RX0 54 "java/lang/IndexOutOfBoundsException", .initialized "java/lang/IndexOutOfBoundsException", .fieldLink RX0 27 "LocalBounds" "black" "[Z", .methodLink RX0 50 yX0_isInside, .instanceMethod yX0_isInside, .selects RX0 yX0_isInside yX0_isInside, .initialized RX0, .code yX0_isInside cX0_isInside 3 (some .boolean), .fieldLink RX0 13 "LocalBounds" "width" "I", .fieldLink RX0 17 "LocalBounds" "height" "I", .methodLink RX0 66 yX0_placeOf, .instanceMethod yX0_placeOf, .selects RX0 yX0_placeOf yX0_placeOf, .code yX0_placeOf cX0_placeOf 3 (some .int)] ++ wsX00 ++ (vx_atS RX0 58 "java/lang/IndexOutOfBoundsException" ["java/lang/RuntimeException", "java/lang/Exception"]).filter goodWord)
def wsX0_isPart : List Cond := .code yX0_isPart cX0_isPart 3 (some .boolean) :: ([])
def wsX0_sum_r1 : List Cond := [Cond.classLink RX0 61 "java/lang/IllegalArgumentException", Cond.initialized "java/lang/IllegalArgumentException", Cond.fieldLink RX0 13 "LocalBounds" "width" "I", Cond.fieldLink RX0 17 "LocalBounds" "height" "I", Cond.fieldLink RX0 41 "LocalBounds" "squareSums" "[J", Cond.fieldLink RX0 37 "LocalBounds" "sums" "[J", Cond.methodLink RX0 147 yX0_isPart, Cond.static yX0_isPart, Cond.initialized RX0, Cond.code yX0_isPart cX0_isPart 3 (some .boolean), Cond.methodLink RX0 83 yX0_fillSums, Cond.instanceMethod yX0_fillSums, Cond.selects RX0 yX0_fillSums yX0_fillSums, Cond.code yX0_fillSums cX0_fillSums 11 none, Cond.fieldLink RX0 23 "LocalBounds" "samples" "[I", Cond.methodLink RX0 66 yX0_placeOf, Cond.instanceMethod yX0_placeOf, Cond.selects RX0 yX0_placeOf yX0_placeOf, Cond.code yX0_placeOf cX0_placeOf 3 (some .int), Cond.methodLink RX0 178 yX0_cornerOf, Cond.instanceMethod yX0_cornerOf, Cond.selects RX0 yX0_cornerOf yX0_cornerOf, Cond.code yX0_cornerOf cX0_cornerOf 3 (some .int), Cond.methodLink RX0 153 yX0_sumBetween]
def wsX0_sum_r2 : List Cond := [Cond.instanceMethod yX0_sumBetween, Cond.selects RX0 yX0_sumBetween yX0_sumBetween, Cond.code yX0_sumBetween cX0_sumBetween 10 (some .long)]
def wsX0_sum : List Cond := .code yX0_sum cX0_sum 6 (some .long) :: ((wsX0_sum_r1 ++ wsX0_sum_r2) ++ wsX00 ++ (vx_atS RX0 65 "java/lang/IllegalArgumentException" ["java/lang/RuntimeException", "java/lang/Exception"]).filter goodWord)
def wsX0_cell : List Cond := .code yX0_cell cX0_cell 4 (some .int) :: ([.classLink RX0 61 "java/lang/IllegalArgumentException", .initialized "java/lang/IllegalArgumentException", .methodLink RX0 109 yX0_isCells, .static yX0_isCells, .initialized RX0, .code yX0_isCells cX0_isCells 1 (some .boolean), .methodLink RX0 115 yX0_cellNumber, .static yX0_cellNumber, .code yX0_cellNumber cX0_cellNumber 5 (some .int), .methodLink RX0 190 yX0_quarterNumber, .static yX0_quarterNumber, .code yX0_quarterNumber cX0_quarterNumber 2 (some .int)] ++ (vx_atS RX0 65 "java/lang/IllegalArgumentException" ["java/lang/RuntimeException", "java/lang/Exception"]).filter goodWord)
def wsX0_countBlackParts_r1 : List Cond := [Cond.fieldLink RX0 20 "LocalBounds" "count" "I", Cond.fieldLink RX0 27 "LocalBounds" "black" "[Z", Cond.fieldLink RX0 44 "LocalBounds" "marked" "[Z", Cond.methodLink RX0 201 yX0_unmarkAll, Cond.instanceMethod yX0_unmarkAll, Cond.selects RX0 yX0_unmarkAll yX0_unmarkAll, Cond.initialized RX0, Cond.code yX0_unmarkAll cX0_unmarkAll 2 none, Cond.methodLink RX0 204 yX0_gatherPart, Cond.instanceMethod yX0_gatherPart, Cond.selects RX0 yX0_gatherPart yX0_gatherPart, Cond.code yX0_gatherPart cX0_gatherPart 6 none, Cond.fieldLink RX0 121 "LocalBounds" "queued" "I", Cond.fieldLink RX0 47 "LocalBounds" "queue" "[I", Cond.methodLink RX0 124 yX0_enqueue, Cond.instanceMethod yX0_enqueue, Cond.selects RX0 yX0_enqueue yX0_enqueue, Cond.code yX0_enqueue cX0_enqueue 2 none, Cond.methodLink RX0 128 yX0_columnOf, Cond.instanceMethod yX0_columnOf, Cond.selects RX0 yX0_columnOf yX0_columnOf, Cond.code yX0_columnOf cX0_columnOf 2 (some .int), Cond.fieldLink RX0 13 "LocalBounds" "width" "I", Cond.methodLink RX0 131 yX0_rowOf]
def wsX0_countBlackParts_r2 : List Cond := [Cond.instanceMethod yX0_rowOf, Cond.selects RX0 yX0_rowOf yX0_rowOf, Cond.code yX0_rowOf cX0_rowOf 2 (some .int), Cond.methodLink RX0 197 yX0_gather, Cond.instanceMethod yX0_gather, Cond.selects RX0 yX0_gather yX0_gather, Cond.code yX0_gather cX0_gather 5 none, Cond.methodLink RX0 50 yX0_isInside, Cond.instanceMethod yX0_isInside, Cond.selects RX0 yX0_isInside yX0_isInside, Cond.code yX0_isInside cX0_isInside 3 (some .boolean), Cond.fieldLink RX0 17 "LocalBounds" "height" "I", Cond.methodLink RX0 66 yX0_placeOf, Cond.instanceMethod yX0_placeOf, Cond.selects RX0 yX0_placeOf yX0_placeOf, Cond.code yX0_placeOf cX0_placeOf 3 (some .int)]
def wsX0_countBlackParts : List Cond := .code yX0_countBlackParts cX0_countBlackParts 3 (some .int) :: ((wsX0_countBlackParts_r1 ++ wsX0_countBlackParts_r2) ++ wsX00)
def wsX0_countGreys : List Cond := .code yX0_countGreys cX0_countGreys 3 (some .int) :: ([.fieldLink RX0 31 "LocalBounds" "ofGrey" "[I", .methodLink RX0 171 yX0_fillOfGrey, .instanceMethod yX0_fillOfGrey, .selects RX0 yX0_fillOfGrey yX0_fillOfGrey, .initialized RX0, .code yX0_fillOfGrey cX0_fillOfGrey 3 none, .fieldLink RX0 20 "LocalBounds" "count" "I", .fieldLink RX0 23 "LocalBounds" "samples" "[I", .methodLink RX0 95 yJ7_fill_53178, .static yJ7_fill_53178, .initialized RJ7, .code yJ7_fill_53178 cJ7_fill_53178 4 none] ++ wsX00)
def wsX0_told_r1 : List Cond := [Cond.fieldLink RX0 13 "LocalBounds" "width" "I", Cond.fieldLink RX0 17 "LocalBounds" "height" "I", Cond.methodLink RX0 90 yX0_countBlack, Cond.instanceMethod yX0_countBlack, Cond.selects RX0 yX0_countBlack yX0_countBlack, Cond.initialized RX0, Cond.code yX0_countBlack cX0_countBlack 3 (some .int), Cond.fieldLink RX0 20 "LocalBounds" "count" "I", Cond.fieldLink RX0 27 "LocalBounds" "black" "[Z", Cond.methodLink RX0 159 yX0_countBlackParts, Cond.instanceMethod yX0_countBlackParts, Cond.selects RX0 yX0_countBlackParts yX0_countBlackParts, Cond.code yX0_countBlackParts cX0_countBlackParts 3 (some .int), Cond.fieldLink RX0 44 "LocalBounds" "marked" "[Z", Cond.methodLink RX0 201 yX0_unmarkAll, Cond.instanceMethod yX0_unmarkAll, Cond.selects RX0 yX0_unmarkAll yX0_unmarkAll, Cond.code yX0_unmarkAll cX0_unmarkAll 2 none, Cond.methodLink RX0 204 yX0_gatherPart, Cond.instanceMethod yX0_gatherPart, Cond.selects RX0 yX0_gatherPart yX0_gatherPart, Cond.code yX0_gatherPart cX0_gatherPart 6 none, Cond.fieldLink RX0 121 "LocalBounds" "queued" "I", Cond.fieldLink RX0 47 "LocalBounds" "queue" "[I"]
def wsX0_told_r2 : List Cond := [Cond.methodLink RX0 124 yX0_enqueue, Cond.instanceMethod yX0_enqueue, Cond.selects RX0 yX0_enqueue yX0_enqueue, Cond.code yX0_enqueue cX0_enqueue 2 none, Cond.methodLink RX0 128 yX0_columnOf, Cond.instanceMethod yX0_columnOf, Cond.selects RX0 yX0_columnOf yX0_columnOf, Cond.code yX0_columnOf cX0_columnOf 2 (some .int), Cond.methodLink RX0 131 yX0_rowOf, Cond.instanceMethod yX0_rowOf, Cond.selects RX0 yX0_rowOf yX0_rowOf, Cond.code yX0_rowOf cX0_rowOf 2 (some .int), Cond.methodLink RX0 197 yX0_gather, Cond.instanceMethod yX0_gather, Cond.selects RX0 yX0_gather yX0_gather, Cond.code yX0_gather cX0_gather 5 none, Cond.methodLink RX0 50 yX0_isInside, Cond.instanceMethod yX0_isInside, Cond.selects RX0 yX0_isInside yX0_isInside, Cond.code yX0_isInside cX0_isInside 3 (some .boolean), Cond.methodLink RX0 66 yX0_placeOf, Cond.instanceMethod yX0_placeOf, Cond.selects RX0 yX0_placeOf yX0_placeOf, Cond.code yX0_placeOf cX0_placeOf 3 (some .int)]
def wsX0_told_r3 : List Cond := [Cond.methodLink RX0 162 yX0_countGreys, Cond.instanceMethod yX0_countGreys, Cond.selects RX0 yX0_countGreys yX0_countGreys, Cond.code yX0_countGreys cX0_countGreys 3 (some .int), Cond.fieldLink RX0 31 "LocalBounds" "ofGrey" "[I", Cond.methodLink RX0 171 yX0_fillOfGrey, Cond.instanceMethod yX0_fillOfGrey, Cond.selects RX0 yX0_fillOfGrey yX0_fillOfGrey, Cond.code yX0_fillOfGrey cX0_fillOfGrey 3 none, Cond.fieldLink RX0 23 "LocalBounds" "samples" "[I", Cond.methodLink RX0 95 yJ7_fill_53178, Cond.static yJ7_fill_53178, Cond.initialized RJ7, Cond.code yJ7_fill_53178 cJ7_fill_53178 4 none]
def wsX0_told : List Cond := .code yX0_told cX0_told 2 (some .int) :: ((wsX0_told_r1 ++ (wsX0_told_r2 ++ wsX0_told_r3)) ++ wsX00)
def wsX0_clear : List Cond := .code yX0_clear cX0_clear 2 none :: ([.fieldLink RX0 20 "LocalBounds" "count" "I", .fieldLink RX0 23 "LocalBounds" "samples" "[I", .fieldLink RX0 27 "LocalBounds" "black" "[Z", .fieldLink RX0 101 "LocalBounds" "lost" "J"] ++ wsX00)
def wsX1_init : List Cond := .code yX1_init cX1_init 3 none :: ([.methodLink RX1 1 objectInit, .instanceMethod objectInit, .code objectInit ⟨#[0xb1]⟩ 1 none, .arrayClass .int, .fieldLink RX1 7 "LocalBoundsModel" "samples" "[I", .arrayClass .boolean, .fieldLink RX1 13 "LocalBoundsModel" "black" "[Z", .fieldLink RX1 17 "LocalBoundsModel" "next" "[Z", .fieldLink RX1 20 "LocalBoundsModel" "came" "[I", .fieldLink RX1 23 "LocalBoundsModel" "part" "[I", .fieldLink RX1 26 "LocalBoundsModel" "width" "I", .fieldLink RX1 30 "LocalBoundsModel" "height" "I"] ++ wsX10)
def wsX1_thrown : List Cond := .code yX1_thrown cX1_thrown 1 (some .int) :: ([.fieldLink RX1 33 "LocalBoundsModel" "thrown" "I"] ++ wsX10)
def wsX1_isIn : List Cond := .code yX1_isIn cX1_isIn 3 (some .boolean) :: ([.fieldLink RX1 26 "LocalBoundsModel" "width" "I", .fieldLink RX1 30 "LocalBoundsModel" "height" "I"] ++ wsX10)
def wsX1_all : List Cond := .code yX1_all cX1_all 1 (some .int) :: ([.fieldLink RX1 26 "LocalBoundsModel" "width" "I", .fieldLink RX1 30 "LocalBoundsModel" "height" "I"] ++ wsX10)
def wsX1_put : List Cond := .code yX1_put cX1_put 5 (some .int) :: ([.fieldLink RX1 33 "LocalBoundsModel" "thrown" "I", .fieldLink RX1 7 "LocalBoundsModel" "samples" "[I", .fieldLink RX1 26 "LocalBoundsModel" "width" "I", .methodLink RX1 36 yX1_isIn, .instanceMethod yX1_isIn, .selects RX1 yX1_isIn yX1_isIn, .initialized RX1, .code yX1_isIn cX1_isIn 3 (some .boolean), .fieldLink RX1 30 "LocalBoundsModel" "height" "I"] ++ wsX10)
def wsX1_paint : List Cond := .code yX1_paint cX1_paint 6 (some .int) :: ([.fieldLink RX1 33 "LocalBoundsModel" "thrown" "I", .fieldLink RX1 7 "LocalBoundsModel" "samples" "[I", .methodLink RX1 40 yX1_all, .instanceMethod yX1_all, .selects RX1 yX1_all yX1_all, .initialized RX1, .code yX1_all cX1_all 1 (some .int), .fieldLink RX1 26 "LocalBoundsModel" "width" "I", .fieldLink RX1 30 "LocalBoundsModel" "height" "I"] ++ wsX10)
def wsX1_blacks : List Cond := .code yX1_blacks cX1_blacks 3 (some .int) :: ([.fieldLink RX1 13 "LocalBoundsModel" "black" "[Z", .methodLink RX1 40 yX1_all, .instanceMethod yX1_all, .selects RX1 yX1_all yX1_all, .initialized RX1, .code yX1_all cX1_all 1 (some .int), .fieldLink RX1 26 "LocalBoundsModel" "width" "I", .fieldLink RX1 30 "LocalBoundsModel" "height" "I"] ++ wsX10)
def wsX1_global : List Cond := .code yX1_global cX1_global 17 (some .int) :: ([.fieldLink RX1 33 "LocalBoundsModel" "thrown" "I", .fieldLink RX1 7 "LocalBoundsModel" "samples" "[I", .fieldLink RX1 13 "LocalBoundsModel" "black" "[Z", .methodLink RX1 40 yX1_all, .instanceMethod yX1_all, .selects RX1 yX1_all yX1_all, .initialized RX1, .code yX1_all cX1_all 1 (some .int), .fieldLink RX1 26 "LocalBoundsModel" "width" "I", .fieldLink RX1 30 "LocalBoundsModel" "height" "I"] ++ wsX10)
def wsX1_isDark : List Cond := .code yX1_isDark cX1_isDark 17 (some .boolean) :: ([.fieldLink RX1 7 "LocalBoundsModel" "samples" "[I", .fieldLink RX1 26 "LocalBoundsModel" "width" "I", .constantLong RX1 44 (128), .constantLong RX1 46 (256), .methodLink RX1 36 yX1_isIn, .instanceMethod yX1_isIn, .selects RX1 yX1_isIn yX1_isIn, .initialized RX1, .code yX1_isIn cX1_isIn 3 (some .boolean), .fieldLink RX1 30 "LocalBoundsModel" "height" "I"] ++ wsX10)
def wsX1_local : List Cond := .code yX1_local cX1_local 5 (some .int) :: ([.fieldLink RX1 33 "LocalBoundsModel" "thrown" "I", .fieldLink RX1 13 "LocalBoundsModel" "black" "[Z", .fieldLink RX1 26 "LocalBoundsModel" "width" "I", .methodLink RX1 40 yX1_all, .instanceMethod yX1_all, .selects RX1 yX1_all yX1_all, .initialized RX1, .code yX1_all cX1_all 1 (some .int), .fieldLink RX1 30 "LocalBoundsModel" "height" "I", .methodLink RX1 48 yX1_isDark, .instanceMethod yX1_isDark, .selects RX1 yX1_isDark yX1_isDark, .code yX1_isDark cX1_isDark 17 (some .boolean), .fieldLink RX1 7 "LocalBoundsModel" "samples" "[I", .constantLong RX1 44 (128), .constantLong RX1 46 (256), .methodLink RX1 36 yX1_isIn, .instanceMethod yX1_isIn, .selects RX1 yX1_isIn yX1_isIn, .code yX1_isIn cX1_isIn 3 (some .boolean), .methodLink RX1 52 yX1_blacks, .instanceMethod yX1_blacks, .selects RX1 yX1_blacks yX1_blacks, .code yX1_blacks cX1_blacks 3 (some .int)] ++ wsX10)
def wsX1_pass : List Cond := .code yX1_pass cX1_pass 4 none :: ([.fieldLink RX1 20 "LocalBoundsModel" "came" "[I", .fieldLink RX1 26 "LocalBoundsModel" "width" "I", .fieldLink RX1 55 "LocalBoundsModel" "rest" "J", .methodLink RX1 36 yX1_isIn, .instanceMethod yX1_isIn, .selects RX1 yX1_isIn yX1_isIn, .initialized RX1, .code yX1_isIn cX1_isIn 3 (some .boolean), .fieldLink RX1 30 "LocalBoundsModel" "height" "I"] ++ wsX10)
def wsX1_spread : List Cond := .code yX1_spread cX1_spread 11 (some .int) :: ([.fieldLink RX1 33 "LocalBoundsModel" "thrown" "I", .fieldLink RX1 55 "LocalBoundsModel" "rest" "J", .fieldLink RX1 20 "LocalBoundsModel" "came" "[I", .fieldLink RX1 30 "LocalBoundsModel" "height" "I", .fieldLink RX1 26 "LocalBoundsModel" "width" "I", .fieldLink RX1 7 "LocalBoundsModel" "samples" "[I", .fieldLink RX1 13 "LocalBoundsModel" "black" "[Z", .methodLink RX1 59 yX1_pass, .instanceMethod yX1_pass, .selects RX1 yX1_pass yX1_pass, .initialized RX1, .code yX1_pass cX1_pass 4 none, .methodLink RX1 36 yX1_isIn, .instanceMethod yX1_isIn, .selects RX1 yX1_isIn yX1_isIn, .code yX1_isIn cX1_isIn 3 (some .boolean), .methodLink RX1 52 yX1_blacks, .instanceMethod yX1_blacks, .selects RX1 yX1_blacks yX1_blacks, .code yX1_blacks cX1_blacks 3 (some .int), .methodLink RX1 40 yX1_all, .instanceMethod yX1_all, .selects RX1 yX1_all yX1_all, .code yX1_all cX1_all 1 (some .int)] ++ wsX10)
def wsX1_rest : List Cond := .code yX1_rest cX1_rest 1 (some .long) :: ([.fieldLink RX1 33 "LocalBoundsModel" "thrown" "I", .fieldLink RX1 55 "LocalBoundsModel" "rest" "J"] ++ wsX10)
def wsX1_isCells : List Cond := .code yX1_isCells cX1_isCells 1 (some .boolean) :: ([])
def wsX1_cellOf : List Cond := .code yX1_cellOf cX1_cellOf 7 (some .int) :: ([])
def wsX1_ordered : List Cond := .code yX1_ordered cX1_ordered 4 (some .int) :: ([.fieldLink RX1 33 "LocalBoundsModel" "thrown" "I", .fieldLink RX1 26 "LocalBoundsModel" "width" "I", .fieldLink RX1 13 "LocalBoundsModel" "black" "[Z", .fieldLink RX1 7 "LocalBoundsModel" "samples" "[I", .methodLink RX1 63 yX1_isCells, .static yX1_isCells, .initialized RX1, .code yX1_isCells cX1_isCells 1 (some .boolean), .methodLink RX1 40 yX1_all, .instanceMethod yX1_all, .selects RX1 yX1_all yX1_all, .code yX1_all cX1_all 1 (some .int), .fieldLink RX1 30 "LocalBoundsModel" "height" "I", .methodLink RX1 67 yX1_cellOf, .static yX1_cellOf, .code yX1_cellOf cX1_cellOf 7 (some .int), .methodLink RX1 52 yX1_blacks, .instanceMethod yX1_blacks, .selects RX1 yX1_blacks yX1_blacks, .code yX1_blacks cX1_blacks 3 (some .int)] ++ wsX10)
def wsX1_cell : List Cond := .code yX1_cell cX1_cell 4 (some .int) :: ([.fieldLink RX1 33 "LocalBoundsModel" "thrown" "I", .methodLink RX1 63 yX1_isCells, .static yX1_isCells, .initialized RX1, .code yX1_isCells cX1_isCells 1 (some .boolean), .methodLink RX1 67 yX1_cellOf, .static yX1_cellOf, .code yX1_cellOf cX1_cellOf 7 (some .int)] ++ wsX10)
def wsX1_touchesBlack : List Cond := .code yX1_touchesBlack cX1_touchesBlack 6 (some .boolean) :: ([.fieldLink RX1 13 "LocalBoundsModel" "black" "[Z", .fieldLink RX1 26 "LocalBoundsModel" "width" "I", .methodLink RX1 36 yX1_isIn, .instanceMethod yX1_isIn, .selects RX1 yX1_isIn yX1_isIn, .initialized RX1, .code yX1_isIn cX1_isIn 3 (some .boolean), .fieldLink RX1 30 "LocalBoundsModel" "height" "I"] ++ wsX10)
def wsX1_join : List Cond := .code yX1_join cX1_join 6 (some .int) :: ([.fieldLink RX1 33 "LocalBoundsModel" "thrown" "I", .fieldLink RX1 13 "LocalBoundsModel" "black" "[Z", .fieldLink RX1 7 "LocalBoundsModel" "samples" "[I", .fieldLink RX1 26 "LocalBoundsModel" "width" "I", .methodLink RX1 40 yX1_all, .instanceMethod yX1_all, .selects RX1 yX1_all yX1_all, .initialized RX1, .code yX1_all cX1_all 1 (some .int), .fieldLink RX1 30 "LocalBoundsModel" "height" "I", .methodLink RX1 71 yX1_touchesBlack, .instanceMethod yX1_touchesBlack, .selects RX1 yX1_touchesBlack yX1_touchesBlack, .code yX1_touchesBlack cX1_touchesBlack 6 (some .boolean), .methodLink RX1 36 yX1_isIn, .instanceMethod yX1_isIn, .selects RX1 yX1_isIn yX1_isIn, .code yX1_isIn cX1_isIn 3 (some .boolean), .methodLink RX1 52 yX1_blacks, .instanceMethod yX1_blacks, .selects RX1 yX1_blacks yX1_blacks, .code yX1_blacks cX1_blacks 3 (some .int)] ++ wsX10)
def wsX1_lesser : List Cond := .code yX1_lesser cX1_lesser 5 (some .int) :: ([.fieldLink RX1 13 "LocalBoundsModel" "black" "[Z", .fieldLink RX1 26 "LocalBoundsModel" "width" "I", .fieldLink RX1 23 "LocalBoundsModel" "part" "[I", .methodLink RX1 36 yX1_isIn, .instanceMethod yX1_isIn, .selects RX1 yX1_isIn yX1_isIn, .initialized RX1, .code yX1_isIn cX1_isIn 3 (some .boolean), .fieldLink RX1 30 "LocalBoundsModel" "height" "I"] ++ wsX10)
def wsX1_findParts : List Cond := .code yX1_findParts cX1_findParts 7 none :: ([.fieldLink RX1 23 "LocalBoundsModel" "part" "[I", .fieldLink RX1 13 "LocalBoundsModel" "black" "[Z", .fieldLink RX1 26 "LocalBoundsModel" "width" "I", .methodLink RX1 40 yX1_all, .instanceMethod yX1_all, .selects RX1 yX1_all yX1_all, .initialized RX1, .code yX1_all cX1_all 1 (some .int), .fieldLink RX1 30 "LocalBoundsModel" "height" "I", .methodLink RX1 74 yX1_lesser, .instanceMethod yX1_lesser, .selects RX1 yX1_lesser yX1_lesser, .code yX1_lesser cX1_lesser 5 (some .int), .methodLink RX1 36 yX1_isIn, .instanceMethod yX1_isIn, .selects RX1 yX1_isIn yX1_isIn, .code yX1_isIn cX1_isIn 3 (some .boolean)] ++ wsX10)
def wsX1_turnSpecks : List Cond := .code yX1_turnSpecks cX1_turnSpecks 10 (some .int) :: ([.fieldLink RX1 23 "LocalBoundsModel" "part" "[I", .fieldLink RX1 26 "LocalBoundsModel" "width" "I", .fieldLink RX1 30 "LocalBoundsModel" "height" "I", .fieldLink RX1 13 "LocalBoundsModel" "black" "[Z", .methodLink RX1 78 yX1_findParts, .instanceMethod yX1_findParts, .selects RX1 yX1_findParts yX1_findParts, .initialized RX1, .code yX1_findParts cX1_findParts 7 none, .methodLink RX1 40 yX1_all, .instanceMethod yX1_all, .selects RX1 yX1_all yX1_all, .code yX1_all cX1_all 1 (some .int), .methodLink RX1 74 yX1_lesser, .instanceMethod yX1_lesser, .selects RX1 yX1_lesser yX1_lesser, .code yX1_lesser cX1_lesser 5 (some .int), .methodLink RX1 36 yX1_isIn, .instanceMethod yX1_isIn, .selects RX1 yX1_isIn yX1_isIn, .code yX1_isIn cX1_isIn 3 (some .boolean)] ++ wsX10)
def wsX1_clean_r1 : List Cond := [Cond.fieldLink RX1 33 "LocalBoundsModel" "thrown" "I", Cond.methodLink RX1 82 yX1_turnSpecks, Cond.instanceMethod yX1_turnSpecks, Cond.selects RX1 yX1_turnSpecks yX1_turnSpecks, Cond.initialized RX1, Cond.code yX1_turnSpecks cX1_turnSpecks 10 (some .int), Cond.fieldLink RX1 23 "LocalBoundsModel" "part" "[I", Cond.fieldLink RX1 26 "LocalBoundsModel" "width" "I", Cond.fieldLink RX1 30 "LocalBoundsModel" "height" "I", Cond.fieldLink RX1 13 "LocalBoundsModel" "black" "[Z", Cond.methodLink RX1 78 yX1_findParts, Cond.instanceMethod yX1_findParts, Cond.selects RX1 yX1_findParts yX1_findParts, Cond.code yX1_findParts cX1_findParts 7 none, Cond.methodLink RX1 40 yX1_all, Cond.instanceMethod yX1_all, Cond.selects RX1 yX1_all yX1_all, Cond.code yX1_all cX1_all 1 (some .int), Cond.methodLink RX1 74 yX1_lesser, Cond.instanceMethod yX1_lesser, Cond.selects RX1 yX1_lesser yX1_lesser, Cond.code yX1_lesser cX1_lesser 5 (some .int), Cond.methodLink RX1 36 yX1_isIn, Cond.instanceMethod yX1_isIn]
def wsX1_clean_r2 : List Cond := [Cond.selects RX1 yX1_isIn yX1_isIn, Cond.code yX1_isIn cX1_isIn 3 (some .boolean)]
def wsX1_clean : List Cond := .code yX1_clean cX1_clean 3 (some .int) :: ((wsX1_clean_r1 ++ wsX1_clean_r2) ++ wsX10)
def wsX1_isBlackAt : List Cond := .code yX1_isBlackAt cX1_isBlackAt 3 (some .boolean) :: ([.fieldLink RX1 13 "LocalBoundsModel" "black" "[Z", .fieldLink RX1 26 "LocalBoundsModel" "width" "I", .methodLink RX1 36 yX1_isIn, .instanceMethod yX1_isIn, .selects RX1 yX1_isIn yX1_isIn, .initialized RX1, .code yX1_isIn cX1_isIn 3 (some .boolean), .fieldLink RX1 30 "LocalBoundsModel" "height" "I"] ++ wsX10)
def wsX1_edges : List Cond := .code yX1_edges cX1_edges 5 (some .int) :: ([.fieldLink RX1 33 "LocalBoundsModel" "thrown" "I", .fieldLink RX1 26 "LocalBoundsModel" "width" "I", .fieldLink RX1 17 "LocalBoundsModel" "next" "[Z", .fieldLink RX1 13 "LocalBoundsModel" "black" "[Z", .methodLink RX1 40 yX1_all, .instanceMethod yX1_all, .selects RX1 yX1_all yX1_all, .initialized RX1, .code yX1_all cX1_all 1 (some .int), .fieldLink RX1 30 "LocalBoundsModel" "height" "I", .methodLink RX1 86 yX1_isBlackAt, .instanceMethod yX1_isBlackAt, .selects RX1 yX1_isBlackAt yX1_isBlackAt, .code yX1_isBlackAt cX1_isBlackAt 3 (some .boolean), .methodLink RX1 36 yX1_isIn, .instanceMethod yX1_isIn, .selects RX1 yX1_isIn yX1_isIn, .code yX1_isIn cX1_isIn 3 (some .boolean), .methodLink RX1 52 yX1_blacks, .instanceMethod yX1_blacks, .selects RX1 yX1_blacks yX1_blacks, .code yX1_blacks cX1_blacks 3 (some .int)] ++ wsX10)
def wsX1_invert : List Cond := .code yX1_invert cX1_invert 2 (some .int) :: ([.fieldLink RX1 33 "LocalBoundsModel" "thrown" "I", .fieldLink RX1 13 "LocalBoundsModel" "black" "[Z", .methodLink RX1 40 yX1_all, .instanceMethod yX1_all, .selects RX1 yX1_all yX1_all, .initialized RX1, .code yX1_all cX1_all 1 (some .int), .fieldLink RX1 26 "LocalBoundsModel" "width" "I", .fieldLink RX1 30 "LocalBoundsModel" "height" "I", .methodLink RX1 52 yX1_blacks, .instanceMethod yX1_blacks, .selects RX1 yX1_blacks yX1_blacks, .code yX1_blacks cX1_blacks 3 (some .int)] ++ wsX10)
def wsX1_at : List Cond := .code yX1_at cX1_at 3 (some .boolean) :: ([.fieldLink RX1 33 "LocalBoundsModel" "thrown" "I", .fieldLink RX1 13 "LocalBoundsModel" "black" "[Z", .fieldLink RX1 26 "LocalBoundsModel" "width" "I", .methodLink RX1 36 yX1_isIn, .instanceMethod yX1_isIn, .selects RX1 yX1_isIn yX1_isIn, .initialized RX1, .code yX1_isIn cX1_isIn 3 (some .boolean), .fieldLink RX1 30 "LocalBoundsModel" "height" "I"] ++ wsX10)
def wsX1_sum : List Cond := .code yX1_sum cX1_sum 13 (some .long) :: ([.fieldLink RX1 26 "LocalBoundsModel" "width" "I", .fieldLink RX1 30 "LocalBoundsModel" "height" "I", .fieldLink RX1 33 "LocalBoundsModel" "thrown" "I", .fieldLink RX1 7 "LocalBoundsModel" "samples" "[I", .methodLink RX1 40 yX1_all, .instanceMethod yX1_all, .selects RX1 yX1_all yX1_all, .initialized RX1, .code yX1_all cX1_all 1 (some .int)] ++ wsX10)
def wsX1_parts : List Cond := .code yX1_parts cX1_parts 3 (some .int) :: ([.fieldLink RX1 23 "LocalBoundsModel" "part" "[I", .methodLink RX1 78 yX1_findParts, .instanceMethod yX1_findParts, .selects RX1 yX1_findParts yX1_findParts, .initialized RX1, .code yX1_findParts cX1_findParts 7 none, .fieldLink RX1 13 "LocalBoundsModel" "black" "[Z", .fieldLink RX1 26 "LocalBoundsModel" "width" "I", .methodLink RX1 40 yX1_all, .instanceMethod yX1_all, .selects RX1 yX1_all yX1_all, .code yX1_all cX1_all 1 (some .int), .fieldLink RX1 30 "LocalBoundsModel" "height" "I", .methodLink RX1 74 yX1_lesser, .instanceMethod yX1_lesser, .selects RX1 yX1_lesser yX1_lesser, .code yX1_lesser cX1_lesser 5 (some .int), .methodLink RX1 36 yX1_isIn, .instanceMethod yX1_isIn, .selects RX1 yX1_isIn yX1_isIn, .code yX1_isIn cX1_isIn 3 (some .boolean)] ++ wsX10)
def wsX1_different : List Cond := .code yX1_different cX1_different 5 (some .int) :: ([.fieldLink RX1 7 "LocalBoundsModel" "samples" "[I", .methodLink RX1 40 yX1_all, .instanceMethod yX1_all, .selects RX1 yX1_all yX1_all, .initialized RX1, .code yX1_all cX1_all 1 (some .int), .fieldLink RX1 26 "LocalBoundsModel" "width" "I", .fieldLink RX1 30 "LocalBoundsModel" "height" "I"] ++ wsX10)
def wsX1_told_r1 : List Cond := [Cond.fieldLink RX1 33 "LocalBoundsModel" "thrown" "I", Cond.fieldLink RX1 26 "LocalBoundsModel" "width" "I", Cond.fieldLink RX1 30 "LocalBoundsModel" "height" "I", Cond.methodLink RX1 52 yX1_blacks, Cond.instanceMethod yX1_blacks, Cond.selects RX1 yX1_blacks yX1_blacks, Cond.initialized RX1, Cond.code yX1_blacks cX1_blacks 3 (some .int), Cond.fieldLink RX1 13 "LocalBoundsModel" "black" "[Z", Cond.methodLink RX1 40 yX1_all, Cond.instanceMethod yX1_all, Cond.selects RX1 yX1_all yX1_all, Cond.code yX1_all cX1_all 1 (some .int), Cond.methodLink RX1 89 yX1_parts, Cond.instanceMethod yX1_parts, Cond.selects RX1 yX1_parts yX1_parts, Cond.code yX1_parts cX1_parts 3 (some .int), Cond.fieldLink RX1 23 "LocalBoundsModel" "part" "[I", Cond.methodLink RX1 78 yX1_findParts, Cond.instanceMethod yX1_findParts, Cond.selects RX1 yX1_findParts yX1_findParts, Cond.code yX1_findParts cX1_findParts 7 none, Cond.methodLink RX1 74 yX1_lesser, Cond.instanceMethod yX1_lesser]
def wsX1_told_r2 : List Cond := [Cond.selects RX1 yX1_lesser yX1_lesser, Cond.code yX1_lesser cX1_lesser 5 (some .int), Cond.methodLink RX1 36 yX1_isIn, Cond.instanceMethod yX1_isIn, Cond.selects RX1 yX1_isIn yX1_isIn, Cond.code yX1_isIn cX1_isIn 3 (some .boolean), Cond.methodLink RX1 92 yX1_different, Cond.instanceMethod yX1_different, Cond.selects RX1 yX1_different yX1_different, Cond.code yX1_different cX1_different 5 (some .int), Cond.fieldLink RX1 7 "LocalBoundsModel" "samples" "[I"]
def wsX1_told : List Cond := .code yX1_told cX1_told 2 (some .int) :: ((wsX1_told_r1 ++ wsX1_told_r2) ++ wsX10)
def wsX1_clear : List Cond := .code yX1_clear cX1_clear 2 none :: ([.fieldLink RX1 33 "LocalBoundsModel" "thrown" "I", .fieldLink RX1 55 "LocalBoundsModel" "rest" "J", .fieldLink RX1 7 "LocalBoundsModel" "samples" "[I", .fieldLink RX1 13 "LocalBoundsModel" "black" "[Z"] ++ wsX10)
def wsJ9_max_7cf53 : List Cond := .code yJ9_max_7cf53 cJ9_max_7cf53 2 (some .int) :: ([])
def wsJ9_min_7cf53 : List Cond := .code yJ9_min_7cf53 cJ9_min_7cf53 2 (some .int) :: ([])
def wsL_cell : List Cond := .code yL_cell cL_cell 2 (some .int) :: ([])
def wsL_put : List Cond := .codeWith yL_put cL_put 6 (some .int) [(0, 12, 15, 13), (0, 12, 19, 15)] :: ([.classLink RL 13 "java/lang/IndexOutOfBoundsException", .classLink RL 15 "java/lang/IllegalArgumentException", .methodLink RL 7 yX0_put, .instanceMethod yX0_put, .selects RX0 yX0_put yX0_put, .initialized RX0, .code yX0_put cX0_put 6 (some .int), .classLink RX0 54 "java/lang/IndexOutOfBoundsException", .initialized "java/lang/IndexOutOfBoundsException", .classLink RX0 61 "java/lang/IllegalArgumentException", .initialized "java/lang/IllegalArgumentException", .fieldLink RX0 23 "LocalBounds" "samples" "[I", .methodLink RX0 50 yX0_isInside, .instanceMethod yX0_isInside, .selects RX0 yX0_isInside yX0_isInside, .code yX0_isInside cX0_isInside 3 (some .boolean), .fieldLink RX0 13 "LocalBounds" "width" "I", .fieldLink RX0 17 "LocalBounds" "height" "I", .methodLink RX0 66 yX0_placeOf, .instanceMethod yX0_placeOf, .selects RX0 yX0_placeOf yX0_placeOf, .code yX0_placeOf cX0_placeOf 3 (some .int)] ++ wsX00 ++ (vx_atS RX0 58 "java/lang/IndexOutOfBoundsException" ["java/lang/RuntimeException", "java/lang/Exception"]).filter goodWord ++ (vx_atS RX0 65 "java/lang/IllegalArgumentException" ["java/lang/RuntimeException", "java/lang/Exception"]).filter goodWord)
def wsL_local_r1 : List Cond := [Cond.classLink RL 15 "java/lang/IllegalArgumentException", Cond.methodLink RL 17 yX0_local, Cond.instanceMethod yX0_local, Cond.selects RX0 yX0_local yX0_local, Cond.initialized RX0, Cond.code yX0_local cX0_local 6 (some .int), Cond.classLink RX0 61 "java/lang/IllegalArgumentException", Cond.initialized "java/lang/IllegalArgumentException", Cond.fieldLink RX0 17 "LocalBounds" "height" "I", Cond.fieldLink RX0 13 "LocalBounds" "width" "I", Cond.fieldLink RX0 27 "LocalBounds" "black" "[Z", Cond.methodLink RX0 83 yX0_fillSums, Cond.instanceMethod yX0_fillSums, Cond.selects RX0 yX0_fillSums yX0_fillSums, Cond.code yX0_fillSums cX0_fillSums 11 none, Cond.fieldLink RX0 23 "LocalBounds" "samples" "[I", Cond.fieldLink RX0 37 "LocalBounds" "sums" "[J", Cond.fieldLink RX0 41 "LocalBounds" "squareSums" "[J", Cond.methodLink RX0 66 yX0_placeOf, Cond.instanceMethod yX0_placeOf, Cond.selects RX0 yX0_placeOf yX0_placeOf, Cond.code yX0_placeOf cX0_placeOf 3 (some .int), Cond.methodLink RX0 178 yX0_cornerOf, Cond.instanceMethod yX0_cornerOf]
def wsL_local_r2 : List Cond := [Cond.selects RX0 yX0_cornerOf yX0_cornerOf, Cond.code yX0_cornerOf cX0_cornerOf 3 (some .int), Cond.methodLink RX0 86 yX0_isDarkInWindow, Cond.instanceMethod yX0_isDarkInWindow, Cond.selects RX0 yX0_isDarkInWindow yX0_isDarkInWindow, Cond.code yX0_isDarkInWindow cX0_isDarkInWindow 20 (some .boolean), Cond.methodLink RX0 168 Lib.Math.max.name, Cond.static Lib.Math.max.name, Cond.initialized "java/lang/Math", Cond.code Lib.Math.max.name Lib.Math.max.code 2 (some .int), Cond.methodLink RX0 165 Lib.Math.min.name, Cond.static Lib.Math.min.name, Cond.code Lib.Math.min.name Lib.Math.min.code 2 (some .int), Cond.constantLong RX0 181 (256), Cond.methodLink RX0 153 yX0_sumBetween, Cond.instanceMethod yX0_sumBetween, Cond.selects RX0 yX0_sumBetween yX0_sumBetween, Cond.code yX0_sumBetween cX0_sumBetween 10 (some .long), Cond.methodLink RX0 90 yX0_countBlack, Cond.instanceMethod yX0_countBlack, Cond.selects RX0 yX0_countBlack yX0_countBlack, Cond.code yX0_countBlack cX0_countBlack 3 (some .int), Cond.fieldLink RX0 20 "LocalBounds" "count" "I"]
def wsL_local : List Cond := .codeWith yL_local cL_local 5 (some .int) [(0, 10, 13, 15)] :: ((wsL_local_r1 ++ wsL_local_r2) ++ wsX00 ++ (vx_atS RX0 65 "java/lang/IllegalArgumentException" ["java/lang/RuntimeException", "java/lang/Exception"]).filter goodWord)
def wsL_spread_r1 : List Cond := [Cond.classLink RL 15 "java/lang/IllegalArgumentException", Cond.methodLink RL 21 yX0_spread, Cond.instanceMethod yX0_spread, Cond.selects RX0 yX0_spread yX0_spread, Cond.initialized RX0, Cond.code yX0_spread cX0_spread 3 (some .int), Cond.classLink RX0 61 "java/lang/IllegalArgumentException", Cond.initialized "java/lang/IllegalArgumentException", Cond.fieldLink RX0 34 "LocalBounds" "came" "[I", Cond.fieldLink RX0 101 "LocalBounds" "lost" "J", Cond.fieldLink RX0 17 "LocalBounds" "height" "I", Cond.methodLink RX0 95 yJ7_fill_53178, Cond.static yJ7_fill_53178, Cond.initialized RJ7, Cond.code yJ7_fill_53178 cJ7_fill_53178 4 none, Cond.methodLink RX0 105 yX0_spreadRow, Cond.instanceMethod yX0_spreadRow, Cond.selects RX0 yX0_spreadRow yX0_spreadRow, Cond.code yX0_spreadRow cX0_spreadRow 7 none, Cond.fieldLink RX0 13 "LocalBounds" "width" "I", Cond.methodLink RX0 183 yX0_spreadSample, Cond.instanceMethod yX0_spreadSample, Cond.selects RX0 yX0_spreadSample yX0_spreadSample, Cond.code yX0_spreadSample cX0_spreadSample 11 none]
def wsL_spread_r2 : List Cond := [Cond.fieldLink RX0 23 "LocalBounds" "samples" "[I", Cond.fieldLink RX0 27 "LocalBounds" "black" "[Z", Cond.methodLink RX0 66 yX0_placeOf, Cond.instanceMethod yX0_placeOf, Cond.selects RX0 yX0_placeOf yX0_placeOf, Cond.code yX0_placeOf cX0_placeOf 3 (some .int), Cond.methodLink RX0 187 yX0_passTo, Cond.instanceMethod yX0_passTo, Cond.selects RX0 yX0_passTo yX0_passTo, Cond.code yX0_passTo cX0_passTo 4 none, Cond.methodLink RX0 50 yX0_isInside, Cond.instanceMethod yX0_isInside, Cond.selects RX0 yX0_isInside yX0_isInside, Cond.code yX0_isInside cX0_isInside 3 (some .boolean), Cond.methodLink RX0 90 yX0_countBlack, Cond.instanceMethod yX0_countBlack, Cond.selects RX0 yX0_countBlack yX0_countBlack, Cond.code yX0_countBlack cX0_countBlack 3 (some .int), Cond.fieldLink RX0 20 "LocalBounds" "count" "I"]
def wsL_spread : List Cond := .codeWith yL_spread cL_spread 4 (some .int) [(0, 9, 12, 15)] :: ((wsL_spread_r1 ++ wsL_spread_r2) ++ wsX00 ++ (vx_atS RX0 65 "java/lang/IllegalArgumentException" ["java/lang/RuntimeException", "java/lang/Exception"]).filter goodWord)
def wsL_ordered_r1 : List Cond := [Cond.classLink RL 15 "java/lang/IllegalArgumentException", Cond.methodLink RL 25 yX0_ordered, Cond.instanceMethod yX0_ordered, Cond.selects RX0 yX0_ordered yX0_ordered, Cond.initialized RX0, Cond.code yX0_ordered cX0_ordered 6 (some .int), Cond.classLink RX0 61 "java/lang/IllegalArgumentException", Cond.initialized "java/lang/IllegalArgumentException", Cond.fieldLink RX0 17 "LocalBounds" "height" "I", Cond.fieldLink RX0 13 "LocalBounds" "width" "I", Cond.fieldLink RX0 27 "LocalBounds" "black" "[Z", Cond.fieldLink RX0 23 "LocalBounds" "samples" "[I", Cond.methodLink RX0 109 yX0_isCells, Cond.static yX0_isCells, Cond.code yX0_isCells cX0_isCells 1 (some .boolean), Cond.methodLink RX0 66 yX0_placeOf, Cond.instanceMethod yX0_placeOf, Cond.selects RX0 yX0_placeOf yX0_placeOf, Cond.code yX0_placeOf cX0_placeOf 3 (some .int), Cond.methodLink RX0 115 yX0_cellNumber, Cond.static yX0_cellNumber, Cond.code yX0_cellNumber cX0_cellNumber 5 (some .int), Cond.methodLink RX0 190 yX0_quarterNumber, Cond.static yX0_quarterNumber]
def wsL_ordered_r2 : List Cond := [Cond.code yX0_quarterNumber cX0_quarterNumber 2 (some .int), Cond.methodLink RX0 90 yX0_countBlack, Cond.instanceMethod yX0_countBlack, Cond.selects RX0 yX0_countBlack yX0_countBlack, Cond.code yX0_countBlack cX0_countBlack 3 (some .int), Cond.fieldLink RX0 20 "LocalBounds" "count" "I"]
def wsL_ordered : List Cond := .codeWith yL_ordered cL_ordered 4 (some .int) [(0, 9, 12, 15)] :: ((wsL_ordered_r1 ++ wsL_ordered_r2) ++ wsX00 ++ (vx_atS RX0 65 "java/lang/IllegalArgumentException" ["java/lang/RuntimeException", "java/lang/Exception"]).filter goodWord)
def wsL_join_r1 : List Cond := [Cond.classLink RL 15 "java/lang/IllegalArgumentException", Cond.methodLink RL 28 yX0_join, Cond.instanceMethod yX0_join, Cond.selects RX0 yX0_join yX0_join, Cond.initialized RX0, Cond.code yX0_join cX0_join 4 (some .int), Cond.classLink RX0 61 "java/lang/IllegalArgumentException", Cond.initialized "java/lang/IllegalArgumentException", Cond.fieldLink RX0 121 "LocalBounds" "queued" "I", Cond.fieldLink RX0 20 "LocalBounds" "count" "I", Cond.fieldLink RX0 27 "LocalBounds" "black" "[Z", Cond.fieldLink RX0 23 "LocalBounds" "samples" "[I", Cond.fieldLink RX0 47 "LocalBounds" "queue" "[I", Cond.methodLink RX0 124 yX0_enqueue, Cond.instanceMethod yX0_enqueue, Cond.selects RX0 yX0_enqueue yX0_enqueue, Cond.code yX0_enqueue cX0_enqueue 2 none, Cond.methodLink RX0 128 yX0_columnOf, Cond.instanceMethod yX0_columnOf, Cond.selects RX0 yX0_columnOf yX0_columnOf, Cond.code yX0_columnOf cX0_columnOf 2 (some .int), Cond.fieldLink RX0 13 "LocalBounds" "width" "I", Cond.methodLink RX0 131 yX0_rowOf, Cond.instanceMethod yX0_rowOf]
def wsL_join_r2 : List Cond := [Cond.selects RX0 yX0_rowOf yX0_rowOf, Cond.code yX0_rowOf cX0_rowOf 2 (some .int), Cond.methodLink RX0 134 yX0_blackenRound, Cond.instanceMethod yX0_blackenRound, Cond.selects RX0 yX0_blackenRound yX0_blackenRound, Cond.code yX0_blackenRound cX0_blackenRound 6 none, Cond.methodLink RX0 50 yX0_isInside, Cond.instanceMethod yX0_isInside, Cond.selects RX0 yX0_isInside yX0_isInside, Cond.code yX0_isInside cX0_isInside 3 (some .boolean), Cond.fieldLink RX0 17 "LocalBounds" "height" "I", Cond.methodLink RX0 66 yX0_placeOf, Cond.instanceMethod yX0_placeOf, Cond.selects RX0 yX0_placeOf yX0_placeOf, Cond.code yX0_placeOf cX0_placeOf 3 (some .int), Cond.methodLink RX0 194 yX0_blackenUpTo, Cond.instanceMethod yX0_blackenUpTo, Cond.selects RX0 yX0_blackenUpTo yX0_blackenUpTo, Cond.code yX0_blackenUpTo cX0_blackenUpTo 3 none, Cond.methodLink RX0 90 yX0_countBlack, Cond.instanceMethod yX0_countBlack, Cond.selects RX0 yX0_countBlack yX0_countBlack, Cond.code yX0_countBlack cX0_countBlack 3 (some .int)]
def wsL_join : List Cond := .codeWith yL_join cL_join 5 (some .int) [(0, 10, 13, 15)] :: ((wsL_join_r1 ++ wsL_join_r2) ++ wsX00 ++ (vx_atS RX0 65 "java/lang/IllegalArgumentException" ["java/lang/RuntimeException", "java/lang/Exception"]).filter goodWord)
def wsL_clean_r1 : List Cond := [Cond.classLink RL 15 "java/lang/IllegalArgumentException", Cond.methodLink RL 31 yX0_clean, Cond.instanceMethod yX0_clean, Cond.selects RX0 yX0_clean yX0_clean, Cond.initialized RX0, Cond.code yX0_clean cX0_clean 4 (some .int), Cond.classLink RX0 61 "java/lang/IllegalArgumentException", Cond.initialized "java/lang/IllegalArgumentException", Cond.methodLink RX0 140 yX0_turnSpecks, Cond.instanceMethod yX0_turnSpecks, Cond.selects RX0 yX0_turnSpecks yX0_turnSpecks, Cond.code yX0_turnSpecks cX0_turnSpecks 5 (some .int), Cond.fieldLink RX0 20 "LocalBounds" "count" "I", Cond.fieldLink RX0 27 "LocalBounds" "black" "[Z", Cond.fieldLink RX0 44 "LocalBounds" "marked" "[Z", Cond.methodLink RX0 201 yX0_unmarkAll, Cond.instanceMethod yX0_unmarkAll, Cond.selects RX0 yX0_unmarkAll yX0_unmarkAll, Cond.code yX0_unmarkAll cX0_unmarkAll 2 none, Cond.methodLink RX0 204 yX0_gatherPart, Cond.instanceMethod yX0_gatherPart, Cond.selects RX0 yX0_gatherPart yX0_gatherPart, Cond.code yX0_gatherPart cX0_gatherPart 6 none, Cond.fieldLink RX0 121 "LocalBounds" "queued" "I"]
def wsL_clean_r2 : List Cond := [Cond.fieldLink RX0 47 "LocalBounds" "queue" "[I", Cond.methodLink RX0 124 yX0_enqueue, Cond.instanceMethod yX0_enqueue, Cond.selects RX0 yX0_enqueue yX0_enqueue, Cond.code yX0_enqueue cX0_enqueue 2 none, Cond.methodLink RX0 128 yX0_columnOf, Cond.instanceMethod yX0_columnOf, Cond.selects RX0 yX0_columnOf yX0_columnOf, Cond.code yX0_columnOf cX0_columnOf 2 (some .int), Cond.fieldLink RX0 13 "LocalBounds" "width" "I", Cond.methodLink RX0 131 yX0_rowOf, Cond.instanceMethod yX0_rowOf, Cond.selects RX0 yX0_rowOf yX0_rowOf, Cond.code yX0_rowOf cX0_rowOf 2 (some .int), Cond.methodLink RX0 197 yX0_gather, Cond.instanceMethod yX0_gather, Cond.selects RX0 yX0_gather yX0_gather, Cond.code yX0_gather cX0_gather 5 none, Cond.methodLink RX0 50 yX0_isInside, Cond.instanceMethod yX0_isInside, Cond.selects RX0 yX0_isInside yX0_isInside, Cond.code yX0_isInside cX0_isInside 3 (some .boolean), Cond.fieldLink RX0 17 "LocalBounds" "height" "I", Cond.methodLink RX0 66 yX0_placeOf]
def wsL_clean_r3 : List Cond := [Cond.instanceMethod yX0_placeOf, Cond.selects RX0 yX0_placeOf yX0_placeOf, Cond.code yX0_placeOf cX0_placeOf 3 (some .int), Cond.methodLink RX0 208 yX0_isSpeck, Cond.instanceMethod yX0_isSpeck, Cond.selects RX0 yX0_isSpeck yX0_isSpeck, Cond.code yX0_isSpeck cX0_isSpeck 3 (some .boolean), Cond.methodLink RX0 216 yX0_queuedComeToEdge, Cond.instanceMethod yX0_queuedComeToEdge, Cond.selects RX0 yX0_queuedComeToEdge yX0_queuedComeToEdge, Cond.code yX0_queuedComeToEdge cX0_queuedComeToEdge 4 (some .boolean), Cond.methodLink RX0 212 yX0_turnQueued, Cond.instanceMethod yX0_turnQueued, Cond.selects RX0 yX0_turnQueued yX0_turnQueued, Cond.code yX0_turnQueued cX0_turnQueued 3 (some .int)]
def wsL_clean : List Cond := .codeWith yL_clean cL_clean 4 (some .int) [(0, 9, 12, 15)] :: ((wsL_clean_r1 ++ (wsL_clean_r2 ++ wsL_clean_r3)) ++ wsX00 ++ (vx_atS RX0 65 "java/lang/IllegalArgumentException" ["java/lang/RuntimeException", "java/lang/Exception"]).filter goodWord)
def wsL_at : List Cond := .codeWith yL_at cL_at 5 (some .int) [(0, 17, 20, 13)] :: ([.classLink RL 13 "java/lang/IndexOutOfBoundsException", .methodLink RL 34 yX0_at, .instanceMethod yX0_at, .selects RX0 yX0_at yX0_at, .initialized RX0, .code yX0_at cX0_at 3 (some .boolean), .classLink RX0 54 "java/lang/IndexOutOfBoundsException", .initialized "java/lang/IndexOutOfBoundsException", .fieldLink RX0 27 "LocalBounds" "black" "[Z", .methodLink RX0 50 yX0_isInside, .instanceMethod yX0_isInside, .selects RX0 yX0_isInside yX0_isInside, .code yX0_isInside cX0_isInside 3 (some .boolean), .fieldLink RX0 13 "LocalBounds" "width" "I", .fieldLink RX0 17 "LocalBounds" "height" "I", .methodLink RX0 66 yX0_placeOf, .instanceMethod yX0_placeOf, .selects RX0 yX0_placeOf yX0_placeOf, .code yX0_placeOf cX0_placeOf 3 (some .int)] ++ wsX00 ++ (vx_atS RX0 58 "java/lang/IndexOutOfBoundsException" ["java/lang/RuntimeException", "java/lang/Exception"]).filter goodWord)
def wsL_sum_r1 : List Cond := [Cond.classLink RL 15 "java/lang/IllegalArgumentException", Cond.methodLink RL 38 yX0_sum, Cond.instanceMethod yX0_sum, Cond.selects RX0 yX0_sum yX0_sum, Cond.initialized RX0, Cond.code yX0_sum cX0_sum 6 (some .long), Cond.classLink RX0 61 "java/lang/IllegalArgumentException", Cond.initialized "java/lang/IllegalArgumentException", Cond.fieldLink RX0 13 "LocalBounds" "width" "I", Cond.fieldLink RX0 17 "LocalBounds" "height" "I", Cond.fieldLink RX0 41 "LocalBounds" "squareSums" "[J", Cond.fieldLink RX0 37 "LocalBounds" "sums" "[J", Cond.methodLink RX0 147 yX0_isPart, Cond.static yX0_isPart, Cond.code yX0_isPart cX0_isPart 3 (some .boolean), Cond.methodLink RX0 83 yX0_fillSums, Cond.instanceMethod yX0_fillSums, Cond.selects RX0 yX0_fillSums yX0_fillSums, Cond.code yX0_fillSums cX0_fillSums 11 none, Cond.fieldLink RX0 23 "LocalBounds" "samples" "[I", Cond.methodLink RX0 66 yX0_placeOf, Cond.instanceMethod yX0_placeOf, Cond.selects RX0 yX0_placeOf yX0_placeOf, Cond.code yX0_placeOf cX0_placeOf 3 (some .int)]
def wsL_sum_r2 : List Cond := [Cond.methodLink RX0 178 yX0_cornerOf, Cond.instanceMethod yX0_cornerOf, Cond.selects RX0 yX0_cornerOf yX0_cornerOf, Cond.code yX0_cornerOf cX0_cornerOf 3 (some .int), Cond.methodLink RX0 153 yX0_sumBetween, Cond.instanceMethod yX0_sumBetween, Cond.selects RX0 yX0_sumBetween yX0_sumBetween, Cond.code yX0_sumBetween cX0_sumBetween 10 (some .long)]
def wsL_sum : List Cond := .codeWith yL_sum cL_sum 8 (some .int) [(0, 15, 18, 15)] :: ((wsL_sum_r1 ++ wsL_sum_r2) ++ wsX00 ++ (vx_atS RX0 65 "java/lang/IllegalArgumentException" ["java/lang/RuntimeException", "java/lang/Exception"]).filter goodWord)
def wsL_cell_ : List Cond := .codeWith yL_cell_ cL_cell_ 6 (some .int) [(0, 12, 15, 15)] :: ([.classLink RL 15 "java/lang/IllegalArgumentException", .methodLink RL 42 yX0_cell, .instanceMethod yX0_cell, .selects RX0 yX0_cell yX0_cell, .initialized RX0, .code yX0_cell cX0_cell 4 (some .int), .classLink RX0 61 "java/lang/IllegalArgumentException", .initialized "java/lang/IllegalArgumentException", .methodLink RX0 109 yX0_isCells, .static yX0_isCells, .code yX0_isCells cX0_isCells 1 (some .boolean), .methodLink RX0 115 yX0_cellNumber, .static yX0_cellNumber, .code yX0_cellNumber cX0_cellNumber 5 (some .int), .methodLink RX0 190 yX0_quarterNumber, .static yX0_quarterNumber, .code yX0_quarterNumber cX0_quarterNumber 2 (some .int)] ++ (vx_atS RX0 65 "java/lang/IllegalArgumentException" ["java/lang/RuntimeException", "java/lang/Exception"]).filter goodWord)
def wsL_law0_r1 : List Cond := [Cond.classLink RL 8 RX0, Cond.instantiable RX0 13, Cond.initialized RX0, Cond.classLink RL 53 RX1, Cond.instantiable RX1 9, Cond.initialized RX1, Cond.arrayClass .long, Cond.methodLink RL 45 yL_cell, Cond.static yL_cell, Cond.initialized RL, Cond.code yL_cell cL_cell 2 (some .int), Cond.methodLink RL 50 yX0_init, Cond.instanceMethod yX0_init, Cond.code yX0_init cX0_init 3 none, Cond.methodLink RX0 1 objectInit, Cond.instanceMethod objectInit, Cond.code objectInit ⟨#[0xb1]⟩ 1 none, Cond.fieldLink RX0 13 "LocalBounds" "width" "I", Cond.fieldLink RX0 17 "LocalBounds" "height" "I", Cond.fieldLink RX0 20 "LocalBounds" "count" "I", Cond.arrayClass .int, Cond.fieldLink RX0 23 "LocalBounds" "samples" "[I", Cond.arrayClass .boolean, Cond.fieldLink RX0 27 "LocalBounds" "black" "[Z"]
def wsL_law0_r2 : List Cond := [Cond.fieldLink RX0 31 "LocalBounds" "ofGrey" "[I", Cond.fieldLink RX0 34 "LocalBounds" "came" "[I", Cond.fieldLink RX0 37 "LocalBounds" "sums" "[J", Cond.fieldLink RX0 41 "LocalBounds" "squareSums" "[J", Cond.fieldLink RX0 44 "LocalBounds" "marked" "[Z", Cond.fieldLink RX0 47 "LocalBounds" "queue" "[I", Cond.methodLink RX0 7 yX0_nearestSide, Cond.static yX0_nearestSide, Cond.code yX0_nearestSide cX0_nearestSide 1 (some .int), Cond.methodLink RX0 165 Lib.Math.min.name, Cond.static Lib.Math.min.name, Cond.initialized "java/lang/Math", Cond.code Lib.Math.min.name Lib.Math.min.code 2 (some .int), Cond.methodLink RX0 168 Lib.Math.max.name, Cond.static Lib.Math.max.name, Cond.code Lib.Math.max.name Lib.Math.max.code 2 (some .int), Cond.methodLink RL 55 yX1_init, Cond.instanceMethod yX1_init, Cond.code yX1_init cX1_init 3 none, Cond.methodLink RX1 1 objectInit, Cond.fieldLink RX1 7 "LocalBoundsModel" "samples" "[I", Cond.fieldLink RX1 13 "LocalBoundsModel" "black" "[Z", Cond.fieldLink RX1 17 "LocalBoundsModel" "next" "[Z", Cond.fieldLink RX1 20 "LocalBoundsModel" "came" "[I"]
def wsL_law0_r3 : List Cond := [Cond.fieldLink RX1 23 "LocalBoundsModel" "part" "[I", Cond.fieldLink RX1 26 "LocalBoundsModel" "width" "I", Cond.fieldLink RX1 30 "LocalBoundsModel" "height" "I", Cond.methodLink RL 56 yL_put, Cond.static yL_put, Cond.codeWith yL_put cL_put 6 (some .int) [(0, 12, 15, 13), (0, 12, 19, 15)], Cond.classLink RL 13 "java/lang/IndexOutOfBoundsException", Cond.classLink RL 15 "java/lang/IllegalArgumentException", Cond.methodLink RL 7 yX0_put, Cond.instanceMethod yX0_put, Cond.selects RX0 yX0_put yX0_put, Cond.code yX0_put cX0_put 6 (some .int), Cond.classLink RX0 54 "java/lang/IndexOutOfBoundsException", Cond.initialized "java/lang/IndexOutOfBoundsException", Cond.classLink RX0 61 "java/lang/IllegalArgumentException", Cond.initialized "java/lang/IllegalArgumentException", Cond.methodLink RX0 50 yX0_isInside, Cond.instanceMethod yX0_isInside, Cond.selects RX0 yX0_isInside yX0_isInside, Cond.code yX0_isInside cX0_isInside 3 (some .boolean), Cond.methodLink RX0 66 yX0_placeOf, Cond.instanceMethod yX0_placeOf, Cond.selects RX0 yX0_placeOf yX0_placeOf, Cond.code yX0_placeOf cX0_placeOf 3 (some .int)]
def wsL_law0_r4 : List Cond := [Cond.methodLink RL 59 yX1_put, Cond.instanceMethod yX1_put, Cond.selects RX1 yX1_put yX1_put, Cond.code yX1_put cX1_put 5 (some .int), Cond.fieldLink RX1 33 "LocalBoundsModel" "thrown" "I", Cond.methodLink RX1 36 yX1_isIn, Cond.instanceMethod yX1_isIn, Cond.selects RX1 yX1_isIn yX1_isIn, Cond.code yX1_isIn cX1_isIn 3 (some .boolean), Cond.methodLink RL 60 yX1_thrown, Cond.instanceMethod yX1_thrown, Cond.selects RX1 yX1_thrown yX1_thrown, Cond.code yX1_thrown cX1_thrown 1 (some .int), Cond.methodLink RL 64 yX0_paint, Cond.instanceMethod yX0_paint, Cond.selects RX0 yX0_paint yX0_paint, Cond.code yX0_paint cX0_paint 7 (some .int), Cond.methodLink RX0 70 yJ9_floorMod_7cf53, Cond.static yJ9_floorMod_7cf53, Cond.initialized RJ9, Cond.code yJ9_floorMod_7cf53 cJ9_floorMod_7cf53 3 (some .int), Cond.methodLink RL 67 yX1_paint, Cond.instanceMethod yX1_paint, Cond.selects RX1 yX1_paint yX1_paint]
def wsL_law0_r5 : List Cond := [Cond.code yX1_paint cX1_paint 6 (some .int), Cond.methodLink RX1 40 yX1_all, Cond.instanceMethod yX1_all, Cond.selects RX1 yX1_all yX1_all, Cond.code yX1_all cX1_all 1 (some .int), Cond.methodLink RL 68 yX0_global, Cond.instanceMethod yX0_global, Cond.selects RX0 yX0_global yX0_global, Cond.code yX0_global cX0_global 3 (some .int), Cond.methodLink RX0 75 yX0_bestBound, Cond.instanceMethod yX0_bestBound, Cond.selects RX0 yX0_bestBound yX0_bestBound, Cond.code yX0_bestBound cX0_bestBound 21 (some .int), Cond.methodLink RX0 171 yX0_fillOfGrey, Cond.instanceMethod yX0_fillOfGrey, Cond.selects RX0 yX0_fillOfGrey yX0_fillOfGrey, Cond.code yX0_fillOfGrey cX0_fillOfGrey 3 none, Cond.methodLink RX0 95 yJ7_fill_53178, Cond.static yJ7_fill_53178, Cond.initialized RJ7, Cond.code yJ7_fill_53178 cJ7_fill_53178 4 none, Cond.methodLink RX0 174 yX0_sumOfSamples, Cond.instanceMethod yX0_sumOfSamples, Cond.selects RX0 yX0_sumOfSamples yX0_sumOfSamples]
def wsL_law0_r6 : List Cond := [Cond.code yX0_sumOfSamples cX0_sumOfSamples 4 (some .long), Cond.methodLink RL 71 yX1_global, Cond.instanceMethod yX1_global, Cond.selects RX1 yX1_global yX1_global, Cond.code yX1_global cX1_global 17 (some .int), Cond.methodLink RL 72 yL_local, Cond.static yL_local, Cond.codeWith yL_local cL_local 5 (some .int) [(0, 10, 13, 15)], Cond.methodLink RL 17 yX0_local, Cond.instanceMethod yX0_local, Cond.selects RX0 yX0_local yX0_local, Cond.code yX0_local cX0_local 6 (some .int), Cond.methodLink RX0 83 yX0_fillSums, Cond.instanceMethod yX0_fillSums, Cond.selects RX0 yX0_fillSums yX0_fillSums, Cond.code yX0_fillSums cX0_fillSums 11 none, Cond.methodLink RX0 178 yX0_cornerOf, Cond.instanceMethod yX0_cornerOf, Cond.selects RX0 yX0_cornerOf yX0_cornerOf, Cond.code yX0_cornerOf cX0_cornerOf 3 (some .int), Cond.methodLink RX0 86 yX0_isDarkInWindow, Cond.instanceMethod yX0_isDarkInWindow, Cond.selects RX0 yX0_isDarkInWindow yX0_isDarkInWindow, Cond.code yX0_isDarkInWindow cX0_isDarkInWindow 20 (some .boolean)]
def wsL_law0_r7 : List Cond := [Cond.constantLong RX0 181 (256), Cond.methodLink RX0 153 yX0_sumBetween, Cond.instanceMethod yX0_sumBetween, Cond.selects RX0 yX0_sumBetween yX0_sumBetween, Cond.code yX0_sumBetween cX0_sumBetween 10 (some .long), Cond.methodLink RX0 90 yX0_countBlack, Cond.instanceMethod yX0_countBlack, Cond.selects RX0 yX0_countBlack yX0_countBlack, Cond.code yX0_countBlack cX0_countBlack 3 (some .int), Cond.methodLink RL 75 yX1_local, Cond.instanceMethod yX1_local, Cond.selects RX1 yX1_local yX1_local, Cond.code yX1_local cX1_local 5 (some .int), Cond.methodLink RX1 48 yX1_isDark, Cond.instanceMethod yX1_isDark, Cond.selects RX1 yX1_isDark yX1_isDark, Cond.code yX1_isDark cX1_isDark 17 (some .boolean), Cond.constantLong RX1 44 (128), Cond.constantLong RX1 46 (256), Cond.methodLink RX1 52 yX1_blacks, Cond.instanceMethod yX1_blacks, Cond.selects RX1 yX1_blacks yX1_blacks, Cond.code yX1_blacks cX1_blacks 3 (some .int), Cond.methodLink RL 76 yL_spread]
def wsL_law0_r8 : List Cond := [Cond.static yL_spread, Cond.codeWith yL_spread cL_spread 4 (some .int) [(0, 9, 12, 15)], Cond.methodLink RL 21 yX0_spread, Cond.instanceMethod yX0_spread, Cond.selects RX0 yX0_spread yX0_spread, Cond.code yX0_spread cX0_spread 3 (some .int), Cond.fieldLink RX0 101 "LocalBounds" "lost" "J", Cond.methodLink RX0 105 yX0_spreadRow, Cond.instanceMethod yX0_spreadRow, Cond.selects RX0 yX0_spreadRow yX0_spreadRow, Cond.code yX0_spreadRow cX0_spreadRow 7 none, Cond.methodLink RX0 183 yX0_spreadSample, Cond.instanceMethod yX0_spreadSample, Cond.selects RX0 yX0_spreadSample yX0_spreadSample, Cond.code yX0_spreadSample cX0_spreadSample 11 none, Cond.methodLink RX0 187 yX0_passTo, Cond.instanceMethod yX0_passTo, Cond.selects RX0 yX0_passTo yX0_passTo, Cond.code yX0_passTo cX0_passTo 4 none, Cond.methodLink RL 79 yX1_spread, Cond.instanceMethod yX1_spread, Cond.selects RX1 yX1_spread yX1_spread, Cond.code yX1_spread cX1_spread 11 (some .int), Cond.fieldLink RX1 55 "LocalBoundsModel" "rest" "J"]
def wsL_law0_r9 : List Cond := [Cond.methodLink RX1 59 yX1_pass, Cond.instanceMethod yX1_pass, Cond.selects RX1 yX1_pass yX1_pass, Cond.code yX1_pass cX1_pass 4 none, Cond.methodLink RL 80 yX0_rest, Cond.instanceMethod yX0_rest, Cond.selects RX0 yX0_rest yX0_rest, Cond.code yX0_rest cX0_rest 1 (some .long), Cond.methodLink RL 84 yX1_rest, Cond.instanceMethod yX1_rest, Cond.selects RX1 yX1_rest yX1_rest, Cond.code yX1_rest cX1_rest 1 (some .long), Cond.methodLink RL 85 yL_ordered, Cond.static yL_ordered, Cond.codeWith yL_ordered cL_ordered 4 (some .int) [(0, 9, 12, 15)], Cond.methodLink RL 25 yX0_ordered, Cond.instanceMethod yX0_ordered, Cond.selects RX0 yX0_ordered yX0_ordered, Cond.code yX0_ordered cX0_ordered 6 (some .int), Cond.methodLink RX0 109 yX0_isCells, Cond.static yX0_isCells, Cond.code yX0_isCells cX0_isCells 1 (some .boolean), Cond.methodLink RX0 115 yX0_cellNumber, Cond.static yX0_cellNumber]
def wsL_law0_r10 : List Cond := [Cond.code yX0_cellNumber cX0_cellNumber 5 (some .int), Cond.methodLink RX0 190 yX0_quarterNumber, Cond.static yX0_quarterNumber, Cond.code yX0_quarterNumber cX0_quarterNumber 2 (some .int), Cond.methodLink RL 87 yX1_ordered, Cond.instanceMethod yX1_ordered, Cond.selects RX1 yX1_ordered yX1_ordered, Cond.code yX1_ordered cX1_ordered 4 (some .int), Cond.methodLink RX1 63 yX1_isCells, Cond.static yX1_isCells, Cond.code yX1_isCells cX1_isCells 1 (some .boolean), Cond.methodLink RX1 67 yX1_cellOf, Cond.static yX1_cellOf, Cond.code yX1_cellOf cX1_cellOf 7 (some .int), Cond.methodLink RL 88 yL_join, Cond.static yL_join, Cond.codeWith yL_join cL_join 5 (some .int) [(0, 10, 13, 15)], Cond.methodLink RL 28 yX0_join, Cond.instanceMethod yX0_join, Cond.selects RX0 yX0_join yX0_join, Cond.code yX0_join cX0_join 4 (some .int), Cond.fieldLink RX0 121 "LocalBounds" "queued" "I", Cond.methodLink RX0 124 yX0_enqueue, Cond.instanceMethod yX0_enqueue]
def wsL_law0_r11 : List Cond := [Cond.selects RX0 yX0_enqueue yX0_enqueue, Cond.code yX0_enqueue cX0_enqueue 2 none, Cond.methodLink RX0 128 yX0_columnOf, Cond.instanceMethod yX0_columnOf, Cond.selects RX0 yX0_columnOf yX0_columnOf, Cond.code yX0_columnOf cX0_columnOf 2 (some .int), Cond.methodLink RX0 131 yX0_rowOf, Cond.instanceMethod yX0_rowOf, Cond.selects RX0 yX0_rowOf yX0_rowOf, Cond.code yX0_rowOf cX0_rowOf 2 (some .int), Cond.methodLink RX0 134 yX0_blackenRound, Cond.instanceMethod yX0_blackenRound, Cond.selects RX0 yX0_blackenRound yX0_blackenRound, Cond.code yX0_blackenRound cX0_blackenRound 6 none, Cond.methodLink RX0 194 yX0_blackenUpTo, Cond.instanceMethod yX0_blackenUpTo, Cond.selects RX0 yX0_blackenUpTo yX0_blackenUpTo, Cond.code yX0_blackenUpTo cX0_blackenUpTo 3 none, Cond.methodLink RL 90 yX1_join, Cond.instanceMethod yX1_join, Cond.selects RX1 yX1_join yX1_join, Cond.code yX1_join cX1_join 6 (some .int), Cond.methodLink RX1 71 yX1_touchesBlack, Cond.instanceMethod yX1_touchesBlack]
def wsL_law0_r12 : List Cond := [Cond.selects RX1 yX1_touchesBlack yX1_touchesBlack, Cond.code yX1_touchesBlack cX1_touchesBlack 6 (some .boolean), Cond.methodLink RL 91 yL_clean, Cond.static yL_clean, Cond.codeWith yL_clean cL_clean 4 (some .int) [(0, 9, 12, 15)], Cond.methodLink RL 31 yX0_clean, Cond.instanceMethod yX0_clean, Cond.selects RX0 yX0_clean yX0_clean, Cond.code yX0_clean cX0_clean 4 (some .int), Cond.methodLink RX0 140 yX0_turnSpecks, Cond.instanceMethod yX0_turnSpecks, Cond.selects RX0 yX0_turnSpecks yX0_turnSpecks, Cond.code yX0_turnSpecks cX0_turnSpecks 5 (some .int), Cond.methodLink RX0 201 yX0_unmarkAll, Cond.instanceMethod yX0_unmarkAll, Cond.selects RX0 yX0_unmarkAll yX0_unmarkAll, Cond.code yX0_unmarkAll cX0_unmarkAll 2 none, Cond.methodLink RX0 204 yX0_gatherPart, Cond.instanceMethod yX0_gatherPart, Cond.selects RX0 yX0_gatherPart yX0_gatherPart, Cond.code yX0_gatherPart cX0_gatherPart 6 none, Cond.methodLink RX0 197 yX0_gather, Cond.instanceMethod yX0_gather, Cond.selects RX0 yX0_gather yX0_gather]
def wsL_law0_r13 : List Cond := [Cond.code yX0_gather cX0_gather 5 none, Cond.methodLink RX0 208 yX0_isSpeck, Cond.instanceMethod yX0_isSpeck, Cond.selects RX0 yX0_isSpeck yX0_isSpeck, Cond.code yX0_isSpeck cX0_isSpeck 3 (some .boolean), Cond.methodLink RX0 216 yX0_queuedComeToEdge, Cond.instanceMethod yX0_queuedComeToEdge, Cond.selects RX0 yX0_queuedComeToEdge yX0_queuedComeToEdge, Cond.code yX0_queuedComeToEdge cX0_queuedComeToEdge 4 (some .boolean), Cond.methodLink RX0 212 yX0_turnQueued, Cond.instanceMethod yX0_turnQueued, Cond.selects RX0 yX0_turnQueued yX0_turnQueued, Cond.code yX0_turnQueued cX0_turnQueued 3 (some .int), Cond.methodLink RL 93 yX1_clean, Cond.instanceMethod yX1_clean, Cond.selects RX1 yX1_clean yX1_clean, Cond.code yX1_clean cX1_clean 3 (some .int), Cond.methodLink RX1 82 yX1_turnSpecks, Cond.instanceMethod yX1_turnSpecks, Cond.selects RX1 yX1_turnSpecks yX1_turnSpecks, Cond.code yX1_turnSpecks cX1_turnSpecks 10 (some .int), Cond.methodLink RX1 78 yX1_findParts, Cond.instanceMethod yX1_findParts, Cond.selects RX1 yX1_findParts yX1_findParts]
def wsL_law0_r14 : List Cond := [Cond.code yX1_findParts cX1_findParts 7 none, Cond.methodLink RX1 74 yX1_lesser, Cond.instanceMethod yX1_lesser, Cond.selects RX1 yX1_lesser yX1_lesser, Cond.code yX1_lesser cX1_lesser 5 (some .int), Cond.methodLink RL 94 yX0_edges, Cond.instanceMethod yX0_edges, Cond.selects RX0 yX0_edges yX0_edges, Cond.code yX0_edges cX0_edges 3 (some .int), Cond.methodLink RX0 144 yX0_isEdge, Cond.instanceMethod yX0_isEdge, Cond.selects RX0 yX0_isEdge yX0_isEdge, Cond.code yX0_isEdge cX0_isEdge 3 (some .boolean), Cond.methodLink RX0 220 yX0_isBlack, Cond.instanceMethod yX0_isBlack, Cond.selects RX0 yX0_isBlack yX0_isBlack, Cond.code yX0_isBlack cX0_isBlack 3 (some .boolean), Cond.methodLink RL 97 yX1_edges, Cond.instanceMethod yX1_edges, Cond.selects RX1 yX1_edges yX1_edges, Cond.code yX1_edges cX1_edges 5 (some .int), Cond.methodLink RX1 86 yX1_isBlackAt, Cond.instanceMethod yX1_isBlackAt, Cond.selects RX1 yX1_isBlackAt yX1_isBlackAt]
def wsL_law0_r15 : List Cond := [Cond.code yX1_isBlackAt cX1_isBlackAt 3 (some .boolean), Cond.methodLink RL 98 yX0_invert, Cond.instanceMethod yX0_invert, Cond.selects RX0 yX0_invert yX0_invert, Cond.code yX0_invert cX0_invert 2 (some .int), Cond.methodLink RL 101 yX1_invert, Cond.instanceMethod yX1_invert, Cond.selects RX1 yX1_invert yX1_invert, Cond.code yX1_invert cX1_invert 2 (some .int), Cond.methodLink RL 102 yL_at, Cond.static yL_at, Cond.codeWith yL_at cL_at 5 (some .int) [(0, 17, 20, 13)], Cond.methodLink RL 34 yX0_at, Cond.instanceMethod yX0_at, Cond.selects RX0 yX0_at yX0_at, Cond.code yX0_at cX0_at 3 (some .boolean), Cond.methodLink RL 104 yX1_at, Cond.instanceMethod yX1_at, Cond.selects RX1 yX1_at yX1_at, Cond.code yX1_at cX1_at 3 (some .boolean), Cond.methodLink RL 105 yL_sum, Cond.static yL_sum, Cond.codeWith yL_sum cL_sum 8 (some .int) [(0, 15, 18, 15)], Cond.methodLink RL 38 yX0_sum]
def wsL_law0_r16 : List Cond := [Cond.instanceMethod yX0_sum, Cond.selects RX0 yX0_sum yX0_sum, Cond.code yX0_sum cX0_sum 6 (some .long), Cond.methodLink RX0 147 yX0_isPart, Cond.static yX0_isPart, Cond.code yX0_isPart cX0_isPart 3 (some .boolean), Cond.methodLink RL 108 yX1_sum, Cond.instanceMethod yX1_sum, Cond.selects RX1 yX1_sum yX1_sum, Cond.code yX1_sum cX1_sum 13 (some .long), Cond.methodLink RL 109 yL_cell_, Cond.static yL_cell_, Cond.codeWith yL_cell_ cL_cell_ 6 (some .int) [(0, 12, 15, 15)], Cond.methodLink RL 42 yX0_cell, Cond.instanceMethod yX0_cell, Cond.selects RX0 yX0_cell yX0_cell, Cond.code yX0_cell cX0_cell 4 (some .int), Cond.methodLink RL 111 yX1_cell, Cond.instanceMethod yX1_cell, Cond.selects RX1 yX1_cell yX1_cell, Cond.code yX1_cell cX1_cell 4 (some .int), Cond.methodLink RL 112 yX0_told, Cond.instanceMethod yX0_told, Cond.selects RX0 yX0_told yX0_told]
def wsL_law0_r17 : List Cond := [Cond.code yX0_told cX0_told 2 (some .int), Cond.methodLink RX0 159 yX0_countBlackParts, Cond.instanceMethod yX0_countBlackParts, Cond.selects RX0 yX0_countBlackParts yX0_countBlackParts, Cond.code yX0_countBlackParts cX0_countBlackParts 3 (some .int), Cond.methodLink RX0 162 yX0_countGreys, Cond.instanceMethod yX0_countGreys, Cond.selects RX0 yX0_countGreys yX0_countGreys, Cond.code yX0_countGreys cX0_countGreys 3 (some .int), Cond.methodLink RL 115 yX1_told, Cond.instanceMethod yX1_told, Cond.selects RX1 yX1_told yX1_told, Cond.code yX1_told cX1_told 2 (some .int), Cond.methodLink RX1 89 yX1_parts, Cond.instanceMethod yX1_parts, Cond.selects RX1 yX1_parts yX1_parts, Cond.code yX1_parts cX1_parts 3 (some .int), Cond.methodLink RX1 92 yX1_different, Cond.instanceMethod yX1_different, Cond.selects RX1 yX1_different yX1_different, Cond.code yX1_different cX1_different 5 (some .int), Cond.methodLink RL 116 yX0_clear, Cond.instanceMethod yX0_clear, Cond.selects RX0 yX0_clear yX0_clear]
def wsL_law0_r18 : List Cond := [Cond.code yX0_clear cX0_clear 2 none, Cond.methodLink RL 119 yX1_clear, Cond.instanceMethod yX1_clear, Cond.selects RX1 yX1_clear yX1_clear, Cond.code yX1_clear cX1_clear 2 none]
def wsL_law0 : List Cond := (wsL_law0_r1 ++ (wsL_law0_r2 ++ (wsL_law0_r3 ++ (wsL_law0_r4 ++ (wsL_law0_r5 ++ (wsL_law0_r6 ++ (wsL_law0_r7 ++ (wsL_law0_r8 ++ (wsL_law0_r9 ++ (wsL_law0_r10 ++ (wsL_law0_r11 ++ (wsL_law0_r12 ++ (wsL_law0_r13 ++ (wsL_law0_r14 ++ (wsL_law0_r15 ++ (wsL_law0_r16 ++ (wsL_law0_r17 ++ wsL_law0_r18))))))))))))))))) ++ wsX00 ++ wsX10 ++ ([] : List Cond)
def wsL_law : List Cond := wsL_law0 ++ (vx_atS RX0 58 "java/lang/IndexOutOfBoundsException" ["java/lang/RuntimeException", "java/lang/Exception"]).filter goodWord ++ (vx_atS RX0 65 "java/lang/IllegalArgumentException" ["java/lang/RuntimeException", "java/lang/Exception"]).filter goodWord

set_option maxRecDepth 20000 in
theorem q_good1 : GoodIn lw_tbl wsL_law0_r1 := goodIn_p _ [212, 56, 59] (by decide +kernel) (by decide +kernel)
set_option maxRecDepth 20000 in
theorem q_good2 : GoodIn lw_tbl wsL_law0_r2 := goodIn_p _ [62, 65, 68, 438] (by decide +kernel) (by decide +kernel)
set_option maxRecDepth 20000 in
theorem q_good3 : GoodIn lw_tbl wsL_law0_r3 := goodIn_p _ [221, 161, 149] (by decide +kernel) (by decide +kernel)
set_option maxRecDepth 20000 in
theorem q_good4 : GoodIn lw_tbl wsL_law0_r4 := goodIn_p _ [475, 479, 471, 115, 118] (by decide +kernel) (by decide +kernel)
set_option maxRecDepth 20000 in
theorem q_good5 : GoodIn lw_tbl wsL_law0_r5 := goodIn_p _ [483, 487, 122, 126, 130, 133] (by decide +kernel) (by decide +kernel)
set_option maxRecDepth 20000 in
theorem q_good6 : GoodIn lw_tbl wsL_law0_r6 := goodIn_p _ [137, 491, 311, 317, 321, 325] (by decide +kernel) (by decide +kernel)
set_option maxRecDepth 20000 in
theorem q_good7 : GoodIn lw_tbl wsL_law0_r7 := goodIn_p _ [329, 165, 495, 499, 505] (by decide +kernel) (by decide +kernel)
set_option maxRecDepth 20000 in
theorem q_good8 : GoodIn lw_tbl wsL_law0_r8 := goodIn_p _ [337, 342, 346, 350, 509] (by decide +kernel) (by decide +kernel)
set_option maxRecDepth 20000 in
theorem q_good9 : GoodIn lw_tbl wsL_law0_r9 := goodIn_p _ [513, 141, 517, 357, 360] (by decide +kernel) (by decide +kernel)
set_option maxRecDepth 20000 in
theorem q_good10 : GoodIn lw_tbl wsL_law0_r10 := goodIn_p _ [364, 367, 521, 524, 527, 374] (by decide +kernel) (by decide +kernel)
set_option maxRecDepth 20000 in
theorem q_good11 : GoodIn lw_tbl wsL_law0_r11 := goodIn_p _ [189, 193, 197, 379, 383, 535] (by decide +kernel) (by decide +kernel)
set_option maxRecDepth 20000 in
theorem q_good12 : GoodIn lw_tbl wsL_law0_r12 := goodIn_p _ [539, 390, 395, 181, 185] (by decide +kernel) (by decide +kernel)
set_option maxRecDepth 20000 in
theorem q_good13 : GoodIn lw_tbl wsL_law0_r13 := goodIn_p _ [201, 399, 403, 407, 543, 547] (by decide +kernel) (by decide +kernel)
set_option maxRecDepth 20000 in
theorem q_good14 : GoodIn lw_tbl wsL_law0_r14 := goodIn_p _ [551, 555, 145, 153, 157, 559] (by decide +kernel) (by decide +kernel)
set_option maxRecDepth 20000 in
theorem q_good15 : GoodIn lw_tbl wsL_law0_r15 := goodIn_p _ [563, 169, 567, 414, 571] (by decide +kernel) (by decide +kernel)
set_option maxRecDepth 20000 in
theorem q_good16 : GoodIn lw_tbl wsL_law0_r16 := goodIn_p _ [421, 424, 575, 432, 531] (by decide +kernel) (by decide +kernel)
set_option maxRecDepth 20000 in
theorem q_good17 : GoodIn lw_tbl wsL_law0_r17 := goodIn_p _ [173, 177, 205, 579, 583, 587] (by decide +kernel) (by decide +kernel)
set_option maxRecDepth 20000 in
theorem q_good18 : GoodIn lw_tbl wsL_law0_r18 := goodIn_p _ [209, 591] (by decide +kernel) (by decide +kernel)
theorem q_goodX0 : GoodIn lw_tbl wsX00 := goodIn_of _ (by decide +kernel)
theorem q_goodX1 : GoodIn lw_tbl wsX10 := goodIn_of _ (by decide +kernel)
theorem q_goodL0 : GoodIn lw_tbl wsL_law0 := goodIn_app (goodIn_app (goodIn_app (goodIn_app q_good1 (goodIn_app q_good2 (goodIn_app q_good3 (goodIn_app q_good4 (goodIn_app q_good5 (goodIn_app q_good6 (goodIn_app q_good7 (goodIn_app q_good8 (goodIn_app q_good9 (goodIn_app q_good10 (goodIn_app q_good11 (goodIn_app q_good12 (goodIn_app q_good13 (goodIn_app q_good14 (goodIn_app q_good15 (goodIn_app q_good16 (goodIn_app q_good17 q_good18))))))))))))))))) q_goodX0) q_goodX1) (fun w h => absurd h List.not_mem_nil)
theorem q_goodE0 : GoodIn lw_tbl ((vx_atS RX0 58 "java/lang/IndexOutOfBoundsException" ["java/lang/RuntimeException", "java/lang/Exception"]).filter goodWord) := goodIn_of _ (by decide +kernel)
theorem q_goodE1 : GoodIn lw_tbl ((vx_atS RX0 65 "java/lang/IllegalArgumentException" ["java/lang/RuntimeException", "java/lang/Exception"]).filter goodWord) := goodIn_of _ (by decide +kernel)
theorem q_goodL : GoodIn lw_tbl wsL_law := goodIn_app (goodIn_app q_goodL0 q_goodE0) q_goodE1
theorem wsL_law_in : ∀ w ∈ wsL_law, w ∈ lw_tbl := fun w h => (q_goodL w h).1
theorem inlX0 : ∀ w ∈ wsX00, w ∈ wsL_law := fun _ h => List.mem_append_left _ (List.mem_append_left _ (List.mem_append_left _ (List.mem_append_left _ (List.mem_append_right _ h))))
theorem inX0 : ∀ w ∈ wsX00, w ∈ lw_tbl := fun w h => wsL_law_in w (inlX0 w h)
theorem inlX1 : ∀ w ∈ wsX10, w ∈ wsL_law := fun _ h => List.mem_append_left _ (List.mem_append_left _ (List.mem_append_left _ (List.mem_append_right _ h)))
theorem inX1 : ∀ w ∈ wsX10, w ∈ lw_tbl := fun w h => wsL_law_in w (inlX1 w h)
theorem inJx145de : ∀ w ∈ wsJx145de0, w ∈ lw_tbl := by decide +kernel
theorem inJ9 : ∀ w ∈ wsJ90, w ∈ lw_tbl := by decide +kernel
theorem inJ0 : ∀ w ∈ wsJ00, w ∈ lw_tbl := by decide +kernel
theorem inJ7 : ∀ w ∈ wsJ70, w ∈ lw_tbl := by decide +kernel
abbrev vwCl : List vw_C := [(RX0, TX0, 13), (RX1, TX1, 9)]
end
section
-- THE ABSTRACT LAYER: values, cells and worlds by their places; one row an instruction
abbrev q_V : Type := Int32 ⊕ (Int64 ⊕ Option Nat)
abbrev q_i (v : Int32) : q_V := .inl v
abbrev q_l (v : Int64) : q_V := .inr (.inl v)
abbrev q_r (k : Nat) : q_V := .inr (.inr (some k))
def q_cv (ad : Nat → Nat) : q_V → Value
  | .inl x => .int x
  | .inr (.inl x) => .long x
  | .inr (.inr none) => .null
  | .inr (.inr (some k)) => .ref (ad k)
abbrev q_E : Type := (Nat × Nat × ((Nat → Int32) ⊕ (Nat → Int64))) ⊕ (Nat × List q_V)
def q_ce (cA : Nat → ClassId) (ad : Nat → Nat) : q_E → va_E
  | .inl (t, n, .inl f) => .inl (cA t, n, .inl f)
  | .inl (t, n, .inr f) => .inl (cA t, n, .inr (.inl f))
  | .inr (k, fs) => .inr (k, fs.map (q_cv ad))
def q_cw (cA : Nat → ClassId) (ad : Nat → Nat) : Nat → List q_E → va_W
  | _, [] => []
  | k, e :: l => (ad k, q_ce cA ad e) :: q_cw cA ad (k + 1) l
theorem q_cw_get (cA : Nat → ClassId) (ad : Nat → Nat) : ∀ (l : List q_E) (o k : Nat), (q_cw cA ad o l)[k]? = (l[k]?).map (fun e => (ad (o + k), q_ce cA ad e))
  | [], o, k => by simp [q_cw]
  | e :: l, o, 0 => by simp [q_cw]
  | e :: l, o, k + 1 => by
    have h := q_cw_get cA ad l (o + 1) k
    simp only [q_cw, List.getElem?_cons_succ]
    rw [h, show o + 1 + k = o + (k + 1) by omega]
theorem q_cw_set (cA : Nat → ClassId) (ad : Nat → Nat) (e' : q_E) : ∀ (l : List q_E) (o k : Nat), q_cw cA ad o (l.set k e') = (q_cw cA ad o l).set k (ad (o + k), q_ce cA ad e')
  | [], o, k => by simp [q_cw]
  | e :: l, o, 0 => by simp [q_cw]
  | e :: l, o, k + 1 => by
    have h := q_cw_set cA ad e' l (o + 1) k
    simp only [q_cw, List.set_cons_succ]
    rw [h, show o + 1 + k = o + (k + 1) by omega]
theorem q_cw_get0 {cA : Nat → ClassId} {ad : Nat → Nat} {l : List q_E} {k : Nat} {e : q_E} (h : l[k]? = some e) : (q_cw cA ad 0 l)[k]? = some (ad k, q_ce cA ad e) := by
  rw [q_cw_get, h]; simp
theorem q_cw_set0 {cA : Nat → ClassId} {ad : Nat → Nat} {l : List q_E} {k : Nat} {e : q_E} : (q_cw cA ad 0 l).set k (ad k, q_ce cA ad e) = q_cw cA ad 0 (l.set k e) := by
  rw [q_cw_set]; simp
def q_tys (cA : Nat → ClassId) : List (ClassId × FieldType) := [(cA 0, .int), (cA 1, .long), (cA 2, .boolean)]
/-- the listed locals, by their places -/
def q_lvl (ad : Nat → Nat) : Nat → List (Option q_V) → List (Nat × Value)
  | _, [] => []
  | i, none :: l => q_lvl ad (i + 1) l
  | i, some v :: l => (i, q_cv ad v) :: q_lvl ad (i + 1) l
theorem q_lvl_mem (ad : Nat → Nat) : ∀ (l : List (Option q_V)) (i : Nat) (q : Nat × Value), q ∈ q_lvl ad i l ↔ ∃ (k : Nat) (v : q_V), l[k]? = some (some v) ∧ q = (i + k, q_cv ad v)
  | [], i, q => by simp [q_lvl]
  | none :: l, i, q => by
    rw [q_lvl, q_lvl_mem ad l (i + 1) q]
    constructor
    · rintro ⟨k, v, h, rfl⟩
      exact ⟨k + 1, v, by simpa using h, by rw [show i + 1 + k = i + (k + 1) by omega]⟩
    · rintro ⟨k, v, h, rfl⟩
      cases k with
      | zero => simp at h
      | succ k => exact ⟨k, v, by simpa using h, by rw [show i + 1 + k = i + (k + 1) by omega]⟩
  | some u :: l, i, q => by
    rw [q_lvl, List.mem_cons, q_lvl_mem ad l (i + 1) q]
    constructor
    · rintro (rfl | ⟨k, v, h, rfl⟩)
      · exact ⟨0, u, by simp, by simp⟩
      · exact ⟨k + 1, v, by simpa using h, by rw [show i + 1 + k = i + (k + 1) by omega]⟩
    · rintro ⟨k, v, h, rfl⟩
      cases k with
      | zero =>
        left
        simp at h
        rw [h]; simp
      | succ k => exact Or.inr ⟨k, v, by simpa using h, by rw [show i + 1 + k = i + (k + 1) by omega]⟩
theorem q_lvl_at {ad : Nat → Nat} {ls : Array Slot} {n : Nat} {l : List (Option q_V)} (h : lv_has ls n (q_lvl ad 0 l)) {k : Nat} {v : q_V} (hk : l[k]? = some (some v)) : ls[k]? = some (.val (q_cv ad v)) :=
  h.2.2 (k, q_cv ad v) ((q_lvl_mem ad l 0 _).mpr ⟨k, v, hk, by simp⟩)
theorem q_has_sub {ls : Array Slot} {n : Nat} {l l' : List (Nat × Value)} (h : lv_has ls n l) (hs : ∀ q ∈ l', q ∈ l) : lv_has ls n l' := ⟨h.1, h.2.1, fun q hq => h.2.2 q (hs q hq)⟩
def q_nol : Option q_V → Bool
  | some (.inr (.inl _)) => false
  | _ => true
theorem q_cat2 {ad : Nat → Nat} {v : q_V} (h : (q_cv ad v).category = 2) : q_nol (some v) = false := by
  rcases v with x | x | (_ | k) <;> simp [q_cv, Value.category, q_nol] at h ⊢
theorem q_cat2' {ad : Nat → Nat} {v : q_V} : ((q_cv ad v).category == 2) = !q_nol (some v) := by
  rcases v with x | x | (_ | k) <;> simp [q_cv, Value.category, q_nol]
/-- the place ahead holds no long -/
def q_fre : Nat → List (Option q_V) → Bool
  | 0, _ => true
  | i + 1, l => match l[i]? with
    | some o => q_nol o
    | none => true
theorem q_st1 {ad : Nat → Nat} {lv : List (Option q_V)} {i : Nat} {v : q_V} (hp : q_fre i lv = true) {q : Nat × Value} (h : q ∈ q_lvl ad 0 (lv.set i (some v))) : q ∈ (i, q_cv ad v) :: (q_lvl ad 0 lv).filter (fun q => !(q.1 == i) && !(q.1 + 1 == i && q.2.category == 2)) := by
  obtain ⟨k, u, hk, rfl⟩ := (q_lvl_mem ad _ 0 _).mp h
  rw [List.getElem?_set] at hk
  by_cases e : i = k
  · subst e
    simp only [if_true] at hk
    split at hk
    · cases hk; simp
    · cases hk
  · rw [if_neg e] at hk
    refine List.mem_cons_of_mem _ (List.mem_filter.mpr ⟨(q_lvl_mem ad _ 0 _).mpr ⟨k, u, hk, rfl⟩, ?_⟩)
    simp only [Nat.zero_add]
    have h1 : (k == i) = false := by simp; omega
    rw [h1]
    by_cases h2 : k + 1 = i
    · subst h2
      simp only [q_fre, hk] at hp
      rw [q_cat2', hp]; simp
    · have h3 : (k + 1 == i) = false := by simp; omega
      rw [h3]; rfl
theorem q_st2 {ad : Nat → Nat} {lv : List (Option q_V)} {i : Nat} {v : q_V} (hp : q_fre i lv = true) {q : Nat × Value} (h : q ∈ q_lvl ad 0 ((lv.set i (some v)).set (i + 1) none)) : q ∈ (i, q_cv ad v) :: (q_lvl ad 0 lv).filter (fun q => !(q.1 == i) && (!(q.1 == i + 1) && !(q.1 + 1 == i && q.2.category == 2))) := by
  obtain ⟨k, u, hk, rfl⟩ := (q_lvl_mem ad _ 0 _).mp h
  rw [List.getElem?_set] at hk
  by_cases e : i + 1 = k
  · subst e
    simp only [if_true] at hk
    split at hk
    · cases hk
    · cases hk
  · rw [if_neg e, List.getElem?_set] at hk
    by_cases e2 : i = k
    · subst e2
      simp only [if_true] at hk
      split at hk
      · cases hk; simp
      · cases hk
    · rw [if_neg e2] at hk
      refine List.mem_cons_of_mem _ (List.mem_filter.mpr ⟨(q_lvl_mem ad _ 0 _).mpr ⟨k, u, hk, rfl⟩, ?_⟩)
      simp only [Nat.zero_add]
      have h1 : (k == i) = false := by simp; omega
      have h4 : (k == i + 1) = false := by simp; omega
      rw [h1, h4]
      by_cases h2 : k + 1 = i
      · subst h2
        simp only [q_fre, hk] at hp
        rw [q_cat2', hp]; simp
      · have h3 : (k + 1 == i) = false := by simp; omega
        rw [h3]; rfl
abbrev q_X : Type := Program × Launch × Env × Room × State × MethodId × Array Value × List Frame × Method × Code × (Nat → Prop) × Heap × Nat × Nat × (State → Prop) × va_G × (Nat → ClassId) × (Nat → Nat)
def q_W (x : q_X) (pc : Nat) (lv : List (Option q_V)) (st : List q_V) (Wd : List q_E) : Prop := match x with
  | (p, l, e, R, s, m, args, below, meth, c, A, H0, cells, slots, Q, D, cA, ad) => ∀ (H : Heap) (locs : List Loc) (ls : Array Slot), lv_has ls lv.length (q_lvl ad 0 lv) → lv.length = c.maxLocals → va_P D vwCl (q_cw cA ad 0 Wd) H → va_D A (q_cw cA ad 0 Wd) → va_S A H0 H locs → W p l e R s m args below meth c H locs cells slots Q (F0 m pc ls (st.map (q_cv ad)))
def q_ok (x : q_X) (cc : ByteArray) (own : String) (fr lo : Nat) : Prop := match x with
  | (p, l, e, R, s, m, args, below, meth, c, A, H0, cells, slots, Q, D, cA, ad) => p.tables.exec = Jvm.exec ∧ c.code = cc ∧ s.vm.findClass own = some m.cls ∧ (∀ w ∈ wsL_law, w.before args s = true) ∧ va_K D vwCl (q_tys cA) s ∧ (∀ q : Nat, H0.size ≤ q → A q) ∧ fr ≤ R.frames ∧ lo ≤ R.locals ∧ cells ≤ R.cells ∧ slots ≤ R.slots

theorem q_iconst {x : q_X} {cc : ByteArray} {own : String} {fr lo pc : Nat} {lv : List (Option q_V)} {st : List q_V} {Wd : List q_E} {n : Int} (ok : q_ok x cc own fr lo) (hd : decode cc pc = .ok (.iconst n, 1)) (kk : q_W x (pc + 1) lv (.inl (Int32.ofInt n) :: st) Wd) : q_W x pc lv (st) Wd := by
  obtain ⟨p, l, e, R, s, m, args, below, meth, c, A, H0, cells, slots, Q, D, cA, ad⟩ := x
  obtain ⟨hx, hb, hown, hts, hK, hA, hfr, hlo, hce, hsl⟩ := ok
  intro H locs ls hl hn hP hD hS
  exact lv_iconst hx hb hd rfl (kk H locs ls hl hn hP hD hS)
theorem q_bipush {x : q_X} {cc : ByteArray} {own : String} {fr lo pc : Nat} {lv : List (Option q_V)} {st : List q_V} {Wd : List q_E} {n : Int} (ok : q_ok x cc own fr lo) (hd : decode cc pc = .ok (.bipush n, 2)) (kk : q_W x (pc + 2) lv (.inl ((Int8.ofInt n).toInt32) :: st) Wd) : q_W x pc lv (st) Wd := by
  obtain ⟨p, l, e, R, s, m, args, below, meth, c, A, H0, cells, slots, Q, D, cA, ad⟩ := x
  obtain ⟨hx, hb, hown, hts, hK, hA, hfr, hlo, hce, hsl⟩ := ok
  intro H locs ls hl hn hP hD hS
  exact lv_bipush hx hb hd rfl (kk H locs ls hl hn hP hD hS)
theorem q_sipush {x : q_X} {cc : ByteArray} {own : String} {fr lo pc : Nat} {lv : List (Option q_V)} {st : List q_V} {Wd : List q_E} {n : Int} (ok : q_ok x cc own fr lo) (hd : decode cc pc = .ok (.sipush n, 3)) (kk : q_W x (pc + 3) lv (.inl ((Int16.ofInt n).toInt32) :: st) Wd) : q_W x pc lv (st) Wd := by
  obtain ⟨p, l, e, R, s, m, args, below, meth, c, A, H0, cells, slots, Q, D, cA, ad⟩ := x
  obtain ⟨hx, hb, hown, hts, hK, hA, hfr, hlo, hce, hsl⟩ := ok
  intro H locs ls hl hn hP hD hS
  exact lv_sipush hx hb hd rfl (kk H locs ls hl hn hP hD hS)
theorem q_iconstv {x : q_X} {cc : ByteArray} {own : String} {fr lo pc : Nat} {lv : List (Option q_V)} {st : List q_V} {Wd : List q_E} {n : Int} (v : Int32) (ok : q_ok x cc own fr lo) (hv : Int32.ofInt n = v) (hd : decode cc pc = .ok (.iconst n, 1)) (kk : q_W x (pc + 1) lv (.inl v :: st) Wd) : q_W x pc lv (st) Wd := by
  obtain ⟨p, l, e, R, s, m, args, below, meth, c, A, H0, cells, slots, Q, D, cA, ad⟩ := x
  obtain ⟨hx, hb, hown, hts, hK, hA, hfr, hlo, hce, hsl⟩ := ok
  intro H locs ls hl hn hP hD hS
  exact lv_iconst hx hb hd hv (kk H locs ls hl hn hP hD hS)
theorem q_bipushv {x : q_X} {cc : ByteArray} {own : String} {fr lo pc : Nat} {lv : List (Option q_V)} {st : List q_V} {Wd : List q_E} {n : Int} (v : Int32) (ok : q_ok x cc own fr lo) (hv : (Int8.ofInt n).toInt32 = v) (hd : decode cc pc = .ok (.bipush n, 2)) (kk : q_W x (pc + 2) lv (.inl v :: st) Wd) : q_W x pc lv (st) Wd := by
  obtain ⟨p, l, e, R, s, m, args, below, meth, c, A, H0, cells, slots, Q, D, cA, ad⟩ := x
  obtain ⟨hx, hb, hown, hts, hK, hA, hfr, hlo, hce, hsl⟩ := ok
  intro H locs ls hl hn hP hD hS
  exact lv_bipush hx hb hd hv (kk H locs ls hl hn hP hD hS)
theorem q_sipushv {x : q_X} {cc : ByteArray} {own : String} {fr lo pc : Nat} {lv : List (Option q_V)} {st : List q_V} {Wd : List q_E} {n : Int} (v : Int32) (ok : q_ok x cc own fr lo) (hv : (Int16.ofInt n).toInt32 = v) (hd : decode cc pc = .ok (.sipush n, 3)) (kk : q_W x (pc + 3) lv (.inl v :: st) Wd) : q_W x pc lv (st) Wd := by
  obtain ⟨p, l, e, R, s, m, args, below, meth, c, A, H0, cells, slots, Q, D, cA, ad⟩ := x
  obtain ⟨hx, hb, hown, hts, hK, hA, hfr, hlo, hce, hsl⟩ := ok
  intro H locs ls hl hn hP hD hS
  exact lv_sipush hx hb hd hv (kk H locs ls hl hn hP hD hS)
theorem q_lconstv {x : q_X} {cc : ByteArray} {own : String} {fr lo pc : Nat} {lv : List (Option q_V)} {st : List q_V} {Wd : List q_E} {n : Fin 2} (v : Int64) (ok : q_ok x cc own fr lo) (hv : Int64.ofNat (n : Nat) = v) (hd : decode cc pc = .ok (.lconst n, 1)) (kk : q_W x (pc + 1) lv (.inr (.inl v) :: st) Wd) : q_W x pc lv (st) Wd := by
  obtain ⟨p, l, e, R, s, m, args, below, meth, c, A, H0, cells, slots, Q, D, cA, ad⟩ := x
  obtain ⟨hx, hb, hown, hts, hK, hA, hfr, hlo, hce, hsl⟩ := ok
  intro H locs ls hl hn hP hD hS
  exact lv_lconst hx hb hd hv (kk H locs ls hl hn hP hD hS)
theorem q_ldc2 {x : q_X} {cc : ByteArray} {own : String} {fr lo pc : Nat} {lv : List (Option q_V)} {st : List q_V} {Wd : List q_E} {ix : Nat} (v : Int64) (ok : q_ok x cc own fr lo) (hc : Cond.constantLong own ix v ∈ wsL_law) (hd : decode cc pc = .ok (.ldc2_w ix, 3)) (kk : q_W x (pc + 3) lv (.inr (.inl v) :: st) Wd) : q_W x pc lv (st) Wd := by
  obtain ⟨p, l, e, R, s, m, args, below, meth, c, A, H0, cells, slots, Q, D, cA, ad⟩ := x
  obtain ⟨hx, hb, hown, hts, hK, hA, hfr, hlo, hce, hsl⟩ := ok
  intro H locs ls hl hn hP hD hS
  exact lv_ldc2 hx hb hown (hts _ hc) hd (kk H locs ls hl hn hP hD hS)
theorem q_iload {x : q_X} {cc : ByteArray} {own : String} {fr lo pc : Nat} {lv : List (Option q_V)} {st : List q_V} {Wd : List q_E} {i : Nat} {v : Int32} (ok : q_ok x cc own fr lo) (hv : lv[i]? = some (some (.inl v))) (hd : decode cc pc = .ok (.iload i, 2)) (kk : q_W x (pc + 2) lv (.inl v :: st) Wd) : q_W x pc lv (st) Wd := by
  obtain ⟨p, l, e, R, s, m, args, below, meth, c, A, H0, cells, slots, Q, D, cA, ad⟩ := x
  obtain ⟨hx, hb, hown, hts, hK, hA, hfr, hlo, hce, hsl⟩ := ok
  intro H locs ls hl hn hP hD hS
  exact lv_iload hx hb hd (q_lvl_at hl hv) (kk H locs ls hl hn hP hD hS)
theorem q_iload_n {x : q_X} {cc : ByteArray} {own : String} {fr lo pc : Nat} {lv : List (Option q_V)} {st : List q_V} {Wd : List q_E} {i : Fin 4} {v : Int32} (ok : q_ok x cc own fr lo) (hv : lv[(i : Nat)]? = some (some (.inl v))) (hd : decode cc pc = .ok (.iload_n i, 1)) (kk : q_W x (pc + 1) lv (.inl v :: st) Wd) : q_W x pc lv (st) Wd := by
  obtain ⟨p, l, e, R, s, m, args, below, meth, c, A, H0, cells, slots, Q, D, cA, ad⟩ := x
  obtain ⟨hx, hb, hown, hts, hK, hA, hfr, hlo, hce, hsl⟩ := ok
  intro H locs ls hl hn hP hD hS
  exact lv_iload_n hx hb hd rfl (q_lvl_at hl hv) (kk H locs ls hl hn hP hD hS)
theorem q_lload {x : q_X} {cc : ByteArray} {own : String} {fr lo pc : Nat} {lv : List (Option q_V)} {st : List q_V} {Wd : List q_E} {i : Nat} {v : Int64} (ok : q_ok x cc own fr lo) (hv : lv[i]? = some (some (.inr (.inl v)))) (hd : decode cc pc = .ok (.lload i, 2)) (kk : q_W x (pc + 2) lv (.inr (.inl v) :: st) Wd) : q_W x pc lv (st) Wd := by
  obtain ⟨p, l, e, R, s, m, args, below, meth, c, A, H0, cells, slots, Q, D, cA, ad⟩ := x
  obtain ⟨hx, hb, hown, hts, hK, hA, hfr, hlo, hce, hsl⟩ := ok
  intro H locs ls hl hn hP hD hS
  exact lv_lload hx hb hd (q_lvl_at hl hv) (kk H locs ls hl hn hP hD hS)
theorem q_lload_n {x : q_X} {cc : ByteArray} {own : String} {fr lo pc : Nat} {lv : List (Option q_V)} {st : List q_V} {Wd : List q_E} {i : Fin 4} {v : Int64} (ok : q_ok x cc own fr lo) (hv : lv[(i : Nat)]? = some (some (.inr (.inl v)))) (hd : decode cc pc = .ok (.lload_n i, 1)) (kk : q_W x (pc + 1) lv (.inr (.inl v) :: st) Wd) : q_W x pc lv (st) Wd := by
  obtain ⟨p, l, e, R, s, m, args, below, meth, c, A, H0, cells, slots, Q, D, cA, ad⟩ := x
  obtain ⟨hx, hb, hown, hts, hK, hA, hfr, hlo, hce, hsl⟩ := ok
  intro H locs ls hl hn hP hD hS
  exact lv_lload_n hx hb hd rfl (q_lvl_at hl hv) (kk H locs ls hl hn hP hD hS)
theorem q_aload {x : q_X} {cc : ByteArray} {own : String} {fr lo pc : Nat} {lv : List (Option q_V)} {st : List q_V} {Wd : List q_E} {i : Nat} {v : Nat} (ok : q_ok x cc own fr lo) (hv : lv[i]? = some (some (.inr (.inr (some v))))) (hd : decode cc pc = .ok (.aload i, 2)) (kk : q_W x (pc + 2) lv (.inr (.inr (some v)) :: st) Wd) : q_W x pc lv (st) Wd := by
  obtain ⟨p, l, e, R, s, m, args, below, meth, c, A, H0, cells, slots, Q, D, cA, ad⟩ := x
  obtain ⟨hx, hb, hown, hts, hK, hA, hfr, hlo, hce, hsl⟩ := ok
  intro H locs ls hl hn hP hD hS
  exact lv_aload hx hb hd (q_lvl_at hl hv) (kk H locs ls hl hn hP hD hS)
theorem q_aload_n {x : q_X} {cc : ByteArray} {own : String} {fr lo pc : Nat} {lv : List (Option q_V)} {st : List q_V} {Wd : List q_E} {i : Fin 4} {v : Nat} (ok : q_ok x cc own fr lo) (hv : lv[(i : Nat)]? = some (some (.inr (.inr (some v))))) (hd : decode cc pc = .ok (.aload_n i, 1)) (kk : q_W x (pc + 1) lv (.inr (.inr (some v)) :: st) Wd) : q_W x pc lv (st) Wd := by
  obtain ⟨p, l, e, R, s, m, args, below, meth, c, A, H0, cells, slots, Q, D, cA, ad⟩ := x
  obtain ⟨hx, hb, hown, hts, hK, hA, hfr, hlo, hce, hsl⟩ := ok
  intro H locs ls hl hn hP hD hS
  exact lv_aload_n hx hb hd rfl (q_lvl_at hl hv) (kk H locs ls hl hn hP hD hS)
theorem q_iadd {x : q_X} {cc : ByteArray} {own : String} {fr lo pc : Nat} {lv : List (Option q_V)} {st : List q_V} {Wd : List q_E} {a b : Int32} (ok : q_ok x cc own fr lo) (hd : decode cc pc = .ok (.iadd, 1)) (kk : q_W x (pc + 1) lv (.inl (a + b) :: st) Wd) : q_W x pc lv (.inl b :: .inl a :: st) Wd := by
  obtain ⟨p, l, e, R, s, m, args, below, meth, c, A, H0, cells, slots, Q, D, cA, ad⟩ := x
  obtain ⟨hx, hb, hown, hts, hK, hA, hfr, hlo, hce, hsl⟩ := ok
  intro H locs ls hl hn hP hD hS
  exact lv_iadd hx hb hd (kk H locs ls hl hn hP hD hS)
theorem q_isub {x : q_X} {cc : ByteArray} {own : String} {fr lo pc : Nat} {lv : List (Option q_V)} {st : List q_V} {Wd : List q_E} {a b : Int32} (ok : q_ok x cc own fr lo) (hd : decode cc pc = .ok (.isub, 1)) (kk : q_W x (pc + 1) lv (.inl (a - b) :: st) Wd) : q_W x pc lv (.inl b :: .inl a :: st) Wd := by
  obtain ⟨p, l, e, R, s, m, args, below, meth, c, A, H0, cells, slots, Q, D, cA, ad⟩ := x
  obtain ⟨hx, hb, hown, hts, hK, hA, hfr, hlo, hce, hsl⟩ := ok
  intro H locs ls hl hn hP hD hS
  exact lv_isub hx hb hd (kk H locs ls hl hn hP hD hS)
theorem q_imul {x : q_X} {cc : ByteArray} {own : String} {fr lo pc : Nat} {lv : List (Option q_V)} {st : List q_V} {Wd : List q_E} {a b : Int32} (ok : q_ok x cc own fr lo) (hd : decode cc pc = .ok (.imul, 1)) (kk : q_W x (pc + 1) lv (.inl (a * b) :: st) Wd) : q_W x pc lv (.inl b :: .inl a :: st) Wd := by
  obtain ⟨p, l, e, R, s, m, args, below, meth, c, A, H0, cells, slots, Q, D, cA, ad⟩ := x
  obtain ⟨hx, hb, hown, hts, hK, hA, hfr, hlo, hce, hsl⟩ := ok
  intro H locs ls hl hn hP hD hS
  exact lv_imul hx hb hd (kk H locs ls hl hn hP hD hS)
theorem q_iand {x : q_X} {cc : ByteArray} {own : String} {fr lo pc : Nat} {lv : List (Option q_V)} {st : List q_V} {Wd : List q_E} {a b : Int32} (ok : q_ok x cc own fr lo) (hd : decode cc pc = .ok (.iand, 1)) (kk : q_W x (pc + 1) lv (.inl (a &&& b) :: st) Wd) : q_W x pc lv (.inl b :: .inl a :: st) Wd := by
  obtain ⟨p, l, e, R, s, m, args, below, meth, c, A, H0, cells, slots, Q, D, cA, ad⟩ := x
  obtain ⟨hx, hb, hown, hts, hK, hA, hfr, hlo, hce, hsl⟩ := ok
  intro H locs ls hl hn hP hD hS
  exact lv_iand hx hb hd (kk H locs ls hl hn hP hD hS)
theorem q_ladd {x : q_X} {cc : ByteArray} {own : String} {fr lo pc : Nat} {lv : List (Option q_V)} {st : List q_V} {Wd : List q_E} {a b : Int64} (ok : q_ok x cc own fr lo) (hd : decode cc pc = .ok (.ladd, 1)) (kk : q_W x (pc + 1) lv (.inr (.inl (a + b)) :: st) Wd) : q_W x pc lv (.inr (.inl b) :: .inr (.inl a) :: st) Wd := by
  obtain ⟨p, l, e, R, s, m, args, below, meth, c, A, H0, cells, slots, Q, D, cA, ad⟩ := x
  obtain ⟨hx, hb, hown, hts, hK, hA, hfr, hlo, hce, hsl⟩ := ok
  intro H locs ls hl hn hP hD hS
  exact lv_ladd hx hb hd (kk H locs ls hl hn hP hD hS)
theorem q_lsub {x : q_X} {cc : ByteArray} {own : String} {fr lo pc : Nat} {lv : List (Option q_V)} {st : List q_V} {Wd : List q_E} {a b : Int64} (ok : q_ok x cc own fr lo) (hd : decode cc pc = .ok (.lsub, 1)) (kk : q_W x (pc + 1) lv (.inr (.inl (a - b)) :: st) Wd) : q_W x pc lv (.inr (.inl b) :: .inr (.inl a) :: st) Wd := by
  obtain ⟨p, l, e, R, s, m, args, below, meth, c, A, H0, cells, slots, Q, D, cA, ad⟩ := x
  obtain ⟨hx, hb, hown, hts, hK, hA, hfr, hlo, hce, hsl⟩ := ok
  intro H locs ls hl hn hP hD hS
  exact lv_lsub hx hb hd (kk H locs ls hl hn hP hD hS)
theorem q_lmul {x : q_X} {cc : ByteArray} {own : String} {fr lo pc : Nat} {lv : List (Option q_V)} {st : List q_V} {Wd : List q_E} {a b : Int64} (ok : q_ok x cc own fr lo) (hd : decode cc pc = .ok (.lmul, 1)) (kk : q_W x (pc + 1) lv (.inr (.inl (a * b)) :: st) Wd) : q_W x pc lv (.inr (.inl b) :: .inr (.inl a) :: st) Wd := by
  obtain ⟨p, l, e, R, s, m, args, below, meth, c, A, H0, cells, slots, Q, D, cA, ad⟩ := x
  obtain ⟨hx, hb, hown, hts, hK, hA, hfr, hlo, hce, hsl⟩ := ok
  intro H locs ls hl hn hP hD hS
  exact lv_lmul hx hb hd (kk H locs ls hl hn hP hD hS)
theorem q_idiv {x : q_X} {cc : ByteArray} {own : String} {fr lo pc : Nat} {lv : List (Option q_V)} {st : List q_V} {Wd : List q_E} {a b : Int32} (ok : q_ok x cc own fr lo) (hne : ¬ b = 0) (hd : decode cc pc = .ok (.idiv, 1)) (kk : q_W x (pc + 1) lv (.inl (a / b) :: st) Wd) : q_W x pc lv (.inl b :: .inl a :: st) Wd := by
  obtain ⟨p, l, e, R, s, m, args, below, meth, c, A, H0, cells, slots, Q, D, cA, ad⟩ := x
  obtain ⟨hx, hb, hown, hts, hK, hA, hfr, hlo, hce, hsl⟩ := ok
  intro H locs ls hl hn hP hD hS
  exact lv_idiv hx hb hd hne (kk H locs ls hl hn hP hD hS)
theorem q_irem {x : q_X} {cc : ByteArray} {own : String} {fr lo pc : Nat} {lv : List (Option q_V)} {st : List q_V} {Wd : List q_E} {a b : Int32} (ok : q_ok x cc own fr lo) (hne : ¬ b = 0) (hd : decode cc pc = .ok (.irem, 1)) (kk : q_W x (pc + 1) lv (.inl (a - a / b * b) :: st) Wd) : q_W x pc lv (.inl b :: .inl a :: st) Wd := by
  obtain ⟨p, l, e, R, s, m, args, below, meth, c, A, H0, cells, slots, Q, D, cA, ad⟩ := x
  obtain ⟨hx, hb, hown, hts, hK, hA, hfr, hlo, hce, hsl⟩ := ok
  intro H locs ls hl hn hP hD hS
  exact lv_irem hx hb hd hne (kk H locs ls hl hn hP hD hS)
theorem q_i2l {x : q_X} {cc : ByteArray} {own : String} {fr lo pc : Nat} {lv : List (Option q_V)} {st : List q_V} {Wd : List q_E} {a : Int32} (ok : q_ok x cc own fr lo) (hd : decode cc pc = .ok (.i2l, 1)) (kk : q_W x (pc + 1) lv (.inr (.inl a.toInt64) :: st) Wd) : q_W x pc lv (.inl a :: st) Wd := by
  obtain ⟨p, l, e, R, s, m, args, below, meth, c, A, H0, cells, slots, Q, D, cA, ad⟩ := x
  obtain ⟨hx, hb, hown, hts, hK, hA, hfr, hlo, hce, hsl⟩ := ok
  intro H locs ls hl hn hP hD hS
  exact lv_i2l hx hb hd rfl (kk H locs ls hl hn hP hD hS)
theorem q_lcmp {x : q_X} {cc : ByteArray} {own : String} {fr lo pc : Nat} {lv : List (Option q_V)} {st : List q_V} {Wd : List q_E} {a b : Int64} (ok : q_ok x cc own fr lo) (hd : decode cc pc = .ok (.lcmp, 1)) (kk : q_W x (pc + 1) lv (.inl (lg_cmp a b) :: st) Wd) : q_W x pc lv (.inr (.inl b) :: .inr (.inl a) :: st) Wd := by
  obtain ⟨p, l, e, R, s, m, args, below, meth, c, A, H0, cells, slots, Q, D, cA, ad⟩ := x
  obtain ⟨hx, hb, hown, hts, hK, hA, hfr, hlo, hce, hsl⟩ := ok
  intro H locs ls hl hn hP hD hS
  exact W.lcmp hx hb hd (kk H locs ls hl hn hP hD hS)
theorem q_dupi {x : q_X} {cc : ByteArray} {own : String} {fr lo pc : Nat} {lv : List (Option q_V)} {st : List q_V} {Wd : List q_E} {a : Int32} (ok : q_ok x cc own fr lo) (hd : decode cc pc = .ok (.dup, 1)) (kk : q_W x (pc + 1) lv (.inl a :: .inl a :: st) Wd) : q_W x pc lv (.inl a :: st) Wd := by
  obtain ⟨p, l, e, R, s, m, args, below, meth, c, A, H0, cells, slots, Q, D, cA, ad⟩ := x
  obtain ⟨hx, hb, hown, hts, hK, hA, hfr, hlo, hce, hsl⟩ := ok
  intro H locs ls hl hn hP hD hS
  exact lv_dup hx hb hd rfl (kk H locs ls hl hn hP hD hS)
theorem q_dupa {x : q_X} {cc : ByteArray} {own : String} {fr lo pc : Nat} {lv : List (Option q_V)} {st : List q_V} {Wd : List q_E} {a : Nat} (ok : q_ok x cc own fr lo) (hd : decode cc pc = .ok (.dup, 1)) (kk : q_W x (pc + 1) lv (.inr (.inr (some a)) :: .inr (.inr (some a)) :: st) Wd) : q_W x pc lv (.inr (.inr (some a)) :: st) Wd := by
  obtain ⟨p, l, e, R, s, m, args, below, meth, c, A, H0, cells, slots, Q, D, cA, ad⟩ := x
  obtain ⟨hx, hb, hown, hts, hK, hA, hfr, hlo, hce, hsl⟩ := ok
  intro H locs ls hl hn hP hD hS
  exact lv_dup hx hb hd rfl (kk H locs ls hl hn hP hD hS)
theorem q_dup2ia {x : q_X} {cc : ByteArray} {own : String} {fr lo pc : Nat} {lv : List (Option q_V)} {st : List q_V} {Wd : List q_E} {a : Nat} {b : Int32} (ok : q_ok x cc own fr lo) (hd : decode cc pc = .ok (.dup2, 1)) (kk : q_W x (pc + 1) lv (.inl b :: .inr (.inr (some a)) :: .inl b :: .inr (.inr (some a)) :: st) Wd) : q_W x pc lv (.inl b :: .inr (.inr (some a)) :: st) Wd := by
  obtain ⟨p, l, e, R, s, m, args, below, meth, c, A, H0, cells, slots, Q, D, cA, ad⟩ := x
  obtain ⟨hx, hb, hown, hts, hK, hA, hfr, hlo, hce, hsl⟩ := ok
  intro H locs ls hl hn hP hD hS
  exact lv_dup2_11 hx hb hd rfl rfl (kk H locs ls hl hn hP hD hS)
theorem q_icmp_eq {x : q_X} {cc : ByteArray} {own : String} {fr lo pc : Nat} {lv : List (Option q_V)} {st : List q_V} {Wd : List q_E} {a b : Int32} {off : Int} (tgt : Nat) (ok : q_ok x cc own fr lo) (hd : decode cc pc = .ok (.if_icmp .eq off, 3)) (ht : (pc : Int) + off = (tgt : Int)) (kt : a = b → q_W x tgt lv st Wd) (kf : ¬ a = b → q_W x (pc + 3) lv st Wd) : q_W x pc lv (.inl b :: .inl a :: st) Wd := by
  obtain ⟨p, l, e, R, s, m, args, below, meth, c, A, H0, cells, slots, Q, D, cA, ad⟩ := x
  obtain ⟨hx, hb, hown, hts, hK, hA, hfr, hlo, hce, hsl⟩ := ok
  intro H locs ls hl hn hP hD hS
  exact lv_icmp_eq hx hb hd ht (fun h => kt h H locs ls hl hn hP hD hS) (fun h => kf h H locs ls hl hn hP hD hS)
theorem q_if_eq {x : q_X} {cc : ByteArray} {own : String} {fr lo pc : Nat} {lv : List (Option q_V)} {st : List q_V} {Wd : List q_E} {a : Int32} {off : Int} (tgt : Nat) (ok : q_ok x cc own fr lo) (hd : decode cc pc = .ok (.ifCond .eq off, 3)) (ht : (pc : Int) + off = (tgt : Int)) (kt : a = 0 → q_W x tgt lv st Wd) (kf : ¬ a = 0 → q_W x (pc + 3) lv st Wd) : q_W x pc lv (.inl a :: st) Wd := by
  obtain ⟨p, l, e, R, s, m, args, below, meth, c, A, H0, cells, slots, Q, D, cA, ad⟩ := x
  obtain ⟨hx, hb, hown, hts, hK, hA, hfr, hlo, hce, hsl⟩ := ok
  intro H locs ls hl hn hP hD hS
  exact lv_if_eq hx hb hd ht (fun h => kt h H locs ls hl hn hP hD hS) (fun h => kf h H locs ls hl hn hP hD hS)
theorem q_icmp_ne {x : q_X} {cc : ByteArray} {own : String} {fr lo pc : Nat} {lv : List (Option q_V)} {st : List q_V} {Wd : List q_E} {a b : Int32} {off : Int} (tgt : Nat) (ok : q_ok x cc own fr lo) (hd : decode cc pc = .ok (.if_icmp .ne off, 3)) (ht : (pc : Int) + off = (tgt : Int)) (kt : ¬ a = b → q_W x tgt lv st Wd) (kf : a = b → q_W x (pc + 3) lv st Wd) : q_W x pc lv (.inl b :: .inl a :: st) Wd := by
  obtain ⟨p, l, e, R, s, m, args, below, meth, c, A, H0, cells, slots, Q, D, cA, ad⟩ := x
  obtain ⟨hx, hb, hown, hts, hK, hA, hfr, hlo, hce, hsl⟩ := ok
  intro H locs ls hl hn hP hD hS
  exact lv_icmp_ne hx hb hd ht (fun h => kt h H locs ls hl hn hP hD hS) (fun h => kf h H locs ls hl hn hP hD hS)
theorem q_if_ne {x : q_X} {cc : ByteArray} {own : String} {fr lo pc : Nat} {lv : List (Option q_V)} {st : List q_V} {Wd : List q_E} {a : Int32} {off : Int} (tgt : Nat) (ok : q_ok x cc own fr lo) (hd : decode cc pc = .ok (.ifCond .ne off, 3)) (ht : (pc : Int) + off = (tgt : Int)) (kt : ¬ a = 0 → q_W x tgt lv st Wd) (kf : a = 0 → q_W x (pc + 3) lv st Wd) : q_W x pc lv (.inl a :: st) Wd := by
  obtain ⟨p, l, e, R, s, m, args, below, meth, c, A, H0, cells, slots, Q, D, cA, ad⟩ := x
  obtain ⟨hx, hb, hown, hts, hK, hA, hfr, hlo, hce, hsl⟩ := ok
  intro H locs ls hl hn hP hD hS
  exact lv_if_ne hx hb hd ht (fun h => kt h H locs ls hl hn hP hD hS) (fun h => kf h H locs ls hl hn hP hD hS)
theorem q_icmp_lt {x : q_X} {cc : ByteArray} {own : String} {fr lo pc : Nat} {lv : List (Option q_V)} {st : List q_V} {Wd : List q_E} {a b : Int32} {off : Int} (tgt : Nat) (ok : q_ok x cc own fr lo) (hd : decode cc pc = .ok (.if_icmp .lt off, 3)) (ht : (pc : Int) + off = (tgt : Int)) (kt : a < b → q_W x tgt lv st Wd) (kf : ¬ a < b → q_W x (pc + 3) lv st Wd) : q_W x pc lv (.inl b :: .inl a :: st) Wd := by
  obtain ⟨p, l, e, R, s, m, args, below, meth, c, A, H0, cells, slots, Q, D, cA, ad⟩ := x
  obtain ⟨hx, hb, hown, hts, hK, hA, hfr, hlo, hce, hsl⟩ := ok
  intro H locs ls hl hn hP hD hS
  exact lv_icmp_lt hx hb hd ht (fun h => kt h H locs ls hl hn hP hD hS) (fun h => kf h H locs ls hl hn hP hD hS)
theorem q_if_lt {x : q_X} {cc : ByteArray} {own : String} {fr lo pc : Nat} {lv : List (Option q_V)} {st : List q_V} {Wd : List q_E} {a : Int32} {off : Int} (tgt : Nat) (ok : q_ok x cc own fr lo) (hd : decode cc pc = .ok (.ifCond .lt off, 3)) (ht : (pc : Int) + off = (tgt : Int)) (kt : a < 0 → q_W x tgt lv st Wd) (kf : ¬ a < 0 → q_W x (pc + 3) lv st Wd) : q_W x pc lv (.inl a :: st) Wd := by
  obtain ⟨p, l, e, R, s, m, args, below, meth, c, A, H0, cells, slots, Q, D, cA, ad⟩ := x
  obtain ⟨hx, hb, hown, hts, hK, hA, hfr, hlo, hce, hsl⟩ := ok
  intro H locs ls hl hn hP hD hS
  exact lv_if_lt hx hb hd ht (fun h => kt h H locs ls hl hn hP hD hS) (fun h => kf h H locs ls hl hn hP hD hS)
theorem q_icmp_ge {x : q_X} {cc : ByteArray} {own : String} {fr lo pc : Nat} {lv : List (Option q_V)} {st : List q_V} {Wd : List q_E} {a b : Int32} {off : Int} (tgt : Nat) (ok : q_ok x cc own fr lo) (hd : decode cc pc = .ok (.if_icmp .ge off, 3)) (ht : (pc : Int) + off = (tgt : Int)) (kt : b ≤ a → q_W x tgt lv st Wd) (kf : ¬ b ≤ a → q_W x (pc + 3) lv st Wd) : q_W x pc lv (.inl b :: .inl a :: st) Wd := by
  obtain ⟨p, l, e, R, s, m, args, below, meth, c, A, H0, cells, slots, Q, D, cA, ad⟩ := x
  obtain ⟨hx, hb, hown, hts, hK, hA, hfr, hlo, hce, hsl⟩ := ok
  intro H locs ls hl hn hP hD hS
  exact lv_icmp_ge hx hb hd ht (fun h => kt h H locs ls hl hn hP hD hS) (fun h => kf h H locs ls hl hn hP hD hS)
theorem q_if_ge {x : q_X} {cc : ByteArray} {own : String} {fr lo pc : Nat} {lv : List (Option q_V)} {st : List q_V} {Wd : List q_E} {a : Int32} {off : Int} (tgt : Nat) (ok : q_ok x cc own fr lo) (hd : decode cc pc = .ok (.ifCond .ge off, 3)) (ht : (pc : Int) + off = (tgt : Int)) (kt : 0 ≤ a → q_W x tgt lv st Wd) (kf : ¬ 0 ≤ a → q_W x (pc + 3) lv st Wd) : q_W x pc lv (.inl a :: st) Wd := by
  obtain ⟨p, l, e, R, s, m, args, below, meth, c, A, H0, cells, slots, Q, D, cA, ad⟩ := x
  obtain ⟨hx, hb, hown, hts, hK, hA, hfr, hlo, hce, hsl⟩ := ok
  intro H locs ls hl hn hP hD hS
  exact lv_if_ge hx hb hd ht (fun h => kt h H locs ls hl hn hP hD hS) (fun h => kf h H locs ls hl hn hP hD hS)
theorem q_icmp_gt {x : q_X} {cc : ByteArray} {own : String} {fr lo pc : Nat} {lv : List (Option q_V)} {st : List q_V} {Wd : List q_E} {a b : Int32} {off : Int} (tgt : Nat) (ok : q_ok x cc own fr lo) (hd : decode cc pc = .ok (.if_icmp .gt off, 3)) (ht : (pc : Int) + off = (tgt : Int)) (kt : b < a → q_W x tgt lv st Wd) (kf : ¬ b < a → q_W x (pc + 3) lv st Wd) : q_W x pc lv (.inl b :: .inl a :: st) Wd := by
  obtain ⟨p, l, e, R, s, m, args, below, meth, c, A, H0, cells, slots, Q, D, cA, ad⟩ := x
  obtain ⟨hx, hb, hown, hts, hK, hA, hfr, hlo, hce, hsl⟩ := ok
  intro H locs ls hl hn hP hD hS
  exact lv_icmp_gt hx hb hd ht (fun h => kt h H locs ls hl hn hP hD hS) (fun h => kf h H locs ls hl hn hP hD hS)
theorem q_if_gt {x : q_X} {cc : ByteArray} {own : String} {fr lo pc : Nat} {lv : List (Option q_V)} {st : List q_V} {Wd : List q_E} {a : Int32} {off : Int} (tgt : Nat) (ok : q_ok x cc own fr lo) (hd : decode cc pc = .ok (.ifCond .gt off, 3)) (ht : (pc : Int) + off = (tgt : Int)) (kt : 0 < a → q_W x tgt lv st Wd) (kf : ¬ 0 < a → q_W x (pc + 3) lv st Wd) : q_W x pc lv (.inl a :: st) Wd := by
  obtain ⟨p, l, e, R, s, m, args, below, meth, c, A, H0, cells, slots, Q, D, cA, ad⟩ := x
  obtain ⟨hx, hb, hown, hts, hK, hA, hfr, hlo, hce, hsl⟩ := ok
  intro H locs ls hl hn hP hD hS
  exact lv_if_gt hx hb hd ht (fun h => kt h H locs ls hl hn hP hD hS) (fun h => kf h H locs ls hl hn hP hD hS)
theorem q_icmp_le {x : q_X} {cc : ByteArray} {own : String} {fr lo pc : Nat} {lv : List (Option q_V)} {st : List q_V} {Wd : List q_E} {a b : Int32} {off : Int} (tgt : Nat) (ok : q_ok x cc own fr lo) (hd : decode cc pc = .ok (.if_icmp .le off, 3)) (ht : (pc : Int) + off = (tgt : Int)) (kt : a ≤ b → q_W x tgt lv st Wd) (kf : ¬ a ≤ b → q_W x (pc + 3) lv st Wd) : q_W x pc lv (.inl b :: .inl a :: st) Wd := by
  obtain ⟨p, l, e, R, s, m, args, below, meth, c, A, H0, cells, slots, Q, D, cA, ad⟩ := x
  obtain ⟨hx, hb, hown, hts, hK, hA, hfr, hlo, hce, hsl⟩ := ok
  intro H locs ls hl hn hP hD hS
  exact lv_icmp_le hx hb hd ht (fun h => kt h H locs ls hl hn hP hD hS) (fun h => kf h H locs ls hl hn hP hD hS)
theorem q_if_le {x : q_X} {cc : ByteArray} {own : String} {fr lo pc : Nat} {lv : List (Option q_V)} {st : List q_V} {Wd : List q_E} {a : Int32} {off : Int} (tgt : Nat) (ok : q_ok x cc own fr lo) (hd : decode cc pc = .ok (.ifCond .le off, 3)) (ht : (pc : Int) + off = (tgt : Int)) (kt : a ≤ 0 → q_W x tgt lv st Wd) (kf : ¬ a ≤ 0 → q_W x (pc + 3) lv st Wd) : q_W x pc lv (.inl a :: st) Wd := by
  obtain ⟨p, l, e, R, s, m, args, below, meth, c, A, H0, cells, slots, Q, D, cA, ad⟩ := x
  obtain ⟨hx, hb, hown, hts, hK, hA, hfr, hlo, hce, hsl⟩ := ok
  intro H locs ls hl hn hP hD hS
  exact lv_if_le hx hb hd ht (fun h => kt h H locs ls hl hn hP hD hS) (fun h => kf h H locs ls hl hn hP hD hS)
theorem q_goto {x : q_X} {cc : ByteArray} {own : String} {fr lo pc : Nat} {lv : List (Option q_V)} {st : List q_V} {Wd : List q_E} {off : Int} (tgt : Nat) (ok : q_ok x cc own fr lo) (hd : decode cc pc = .ok (.goto off, 3)) (ht : (pc : Int) + off = (tgt : Int)) (kk : q_W x tgt lv st Wd) : q_W x pc lv st Wd := by
  obtain ⟨p, l, e, R, s, m, args, below, meth, c, A, H0, cells, slots, Q, D, cA, ad⟩ := x
  obtain ⟨hx, hb, hown, hts, hK, hA, hfr, hlo, hce, hsl⟩ := ok
  intro H locs ls hl hn hP hD hS
  exact lv_goto hx hb hd ht (kk H locs ls hl hn hP hD hS)
theorem q_istoreG {x : q_X} {cc : ByteArray} {own : String} {fr lo pc : Nat} {lv : List (Option q_V)} {st : List q_V} {Wd : List q_E} {i : Nat} {v : Int32} (ok : q_ok x cc own fr lo) (hi : i < lv.length) (hp : q_fre i lv = true) (hd : decode cc pc = .ok (.istore i, 2)) (kk : q_W x (pc + 2) (lv.set i (some (.inl v))) st Wd) : q_W x pc lv (.inl v :: st) Wd := by
  obtain ⟨p, l, e, R, s, m, args, below, meth, c, A, H0, cells, slots, Q, D, cA, ad⟩ := x
  obtain ⟨hx, hb, hown, hts, hK, hA, hfr, hlo, hce, hsl⟩ := ok
  intro H locs ls hl hn hP hD hS
  exact lv_istore hx hb hd hl hi rfl (fun ls2 h2 => kk H locs ls2 (by rw [List.length_set]; exact q_has_sub h2 (fun q hq => q_st1 hp hq)) (by rw [List.length_set]; exact hn) hP hD hS)
theorem q_istore_nG {x : q_X} {cc : ByteArray} {own : String} {fr lo pc : Nat} {lv : List (Option q_V)} {st : List q_V} {Wd : List q_E} {i : Fin 4} {v : Int32} (ok : q_ok x cc own fr lo) (hi : (i : Nat) < lv.length) (hp : q_fre i lv = true) (hd : decode cc pc = .ok (.istore_n i, 1)) (kk : q_W x (pc + 1) (lv.set i (some (.inl v))) st Wd) : q_W x pc lv (.inl v :: st) Wd := by
  obtain ⟨p, l, e, R, s, m, args, below, meth, c, A, H0, cells, slots, Q, D, cA, ad⟩ := x
  obtain ⟨hx, hb, hown, hts, hK, hA, hfr, hlo, hce, hsl⟩ := ok
  intro H locs ls hl hn hP hD hS
  exact lv_istore_n hx hb hd rfl hl hi rfl (fun ls2 h2 => kk H locs ls2 (by rw [List.length_set]; exact q_has_sub h2 (fun q hq => q_st1 hp hq)) (by rw [List.length_set]; exact hn) hP hD hS)
theorem q_astoreG {x : q_X} {cc : ByteArray} {own : String} {fr lo pc : Nat} {lv : List (Option q_V)} {st : List q_V} {Wd : List q_E} {i : Nat} {v : Nat} (ok : q_ok x cc own fr lo) (hi : i < lv.length) (hp : q_fre i lv = true) (hd : decode cc pc = .ok (.astore i, 2)) (kk : q_W x (pc + 2) (lv.set i (some (.inr (.inr (some v))))) st Wd) : q_W x pc lv (.inr (.inr (some v)) :: st) Wd := by
  obtain ⟨p, l, e, R, s, m, args, below, meth, c, A, H0, cells, slots, Q, D, cA, ad⟩ := x
  obtain ⟨hx, hb, hown, hts, hK, hA, hfr, hlo, hce, hsl⟩ := ok
  intro H locs ls hl hn hP hD hS
  exact lv_astore hx hb hd hl hi rfl (fun ls2 h2 => kk H locs ls2 (by rw [List.length_set]; exact q_has_sub h2 (fun q hq => q_st1 hp hq)) (by rw [List.length_set]; exact hn) hP hD hS)
theorem q_astore_nG {x : q_X} {cc : ByteArray} {own : String} {fr lo pc : Nat} {lv : List (Option q_V)} {st : List q_V} {Wd : List q_E} {i : Fin 4} {v : Nat} (ok : q_ok x cc own fr lo) (hi : (i : Nat) < lv.length) (hp : q_fre i lv = true) (hd : decode cc pc = .ok (.astore_n i, 1)) (kk : q_W x (pc + 1) (lv.set i (some (.inr (.inr (some v))))) st Wd) : q_W x pc lv (.inr (.inr (some v)) :: st) Wd := by
  obtain ⟨p, l, e, R, s, m, args, below, meth, c, A, H0, cells, slots, Q, D, cA, ad⟩ := x
  obtain ⟨hx, hb, hown, hts, hK, hA, hfr, hlo, hce, hsl⟩ := ok
  intro H locs ls hl hn hP hD hS
  exact lv_astore_n hx hb hd rfl hl hi rfl (fun ls2 h2 => kk H locs ls2 (by rw [List.length_set]; exact q_has_sub h2 (fun q hq => q_st1 hp hq)) (by rw [List.length_set]; exact hn) hP hD hS)
theorem q_lstoreG {x : q_X} {cc : ByteArray} {own : String} {fr lo pc : Nat} {lv : List (Option q_V)} {st : List q_V} {Wd : List q_E} {i : Nat} {v : Int64} (ok : q_ok x cc own fr lo) (hi : i + 1 < lv.length) (hp : q_fre i lv = true) (hd : decode cc pc = .ok (.lstore i, 2)) (kk : q_W x (pc + 2) ((lv.set i (some (.inr (.inl v)))).set (i + 1) none) st Wd) : q_W x pc lv (.inr (.inl v) :: st) Wd := by
  obtain ⟨p, l, e, R, s, m, args, below, meth, c, A, H0, cells, slots, Q, D, cA, ad⟩ := x
  obtain ⟨hx, hb, hown, hts, hK, hA, hfr, hlo, hce, hsl⟩ := ok
  intro H locs ls hl hn hP hD hS
  exact lv_lstore hx hb hd hl hi rfl (fun ls2 h2 => kk H locs ls2 (by rw [List.length_set, List.length_set]; exact q_has_sub h2 (fun q hq => q_st2 hp hq)) (by rw [List.length_set, List.length_set]; exact hn) hP hD hS)
theorem q_lstore_nG {x : q_X} {cc : ByteArray} {own : String} {fr lo pc : Nat} {lv : List (Option q_V)} {st : List q_V} {Wd : List q_E} {i : Fin 4} {v : Int64} (ok : q_ok x cc own fr lo) (hi : (i : Nat) + 1 < lv.length) (hp : q_fre i lv = true) (hd : decode cc pc = .ok (.lstore_n i, 1)) (kk : q_W x (pc + 1) ((lv.set i (some (.inr (.inl v)))).set (i + 1) none) st Wd) : q_W x pc lv (.inr (.inl v) :: st) Wd := by
  obtain ⟨p, l, e, R, s, m, args, below, meth, c, A, H0, cells, slots, Q, D, cA, ad⟩ := x
  obtain ⟨hx, hb, hown, hts, hK, hA, hfr, hlo, hce, hsl⟩ := ok
  intro H locs ls hl hn hP hD hS
  exact lv_lstore_n hx hb hd rfl hl hi rfl (fun ls2 h2 => kk H locs ls2 (by rw [List.length_set, List.length_set]; exact q_has_sub h2 (fun q hq => q_st2 hp hq)) (by rw [List.length_set, List.length_set]; exact hn) hP hD hS)
theorem q_iincG {x : q_X} {cc : ByteArray} {own : String} {fr lo pc : Nat} {lv : List (Option q_V)} {st : List q_V} {Wd : List q_E} {i : Nat} {n : Int} {v : Int32} (ok : q_ok x cc own fr lo) (hv : lv[i]? = some (some (.inl v))) (hp : q_fre i lv = true) (hd : decode cc pc = .ok (.iinc i n, 3)) (kk : q_W x (pc + 3) (lv.set i (some (.inl (v + Int32.ofInt n)))) st Wd) : q_W x pc lv st Wd := by
  obtain ⟨p, l, e, R, s, m, args, below, meth, c, A, H0, cells, slots, Q, D, cA, ad⟩ := x
  obtain ⟨hx, hb, hown, hts, hK, hA, hfr, hlo, hce, hsl⟩ := ok
  intro H locs ls hl hn hP hD hS
  have hi : i < lv.length := (List.getElem?_eq_some_iff.mp hv).1
  obtain ⟨k, hk⟩ := List.getElem?_of_mem ((q_lvl_mem ad lv 0 (i, .int v)).mpr ⟨i, .inl v, hv, by simp [q_cv]⟩)
  exact lv_iinc hx hb hd hl hk rfl hi rfl (fun ls2 h2 => kk H locs ls2 (by rw [List.length_set]; exact q_has_sub h2 (fun q hq => q_st1 hp hq)) (by rw [List.length_set]; exact hn) hP hD hS)
theorem q_istore_0 {x : q_X} {cc : ByteArray} {own : String} {fr lo pc : Nat} {st : List q_V} {Wd : List q_E} {a0 : Option q_V} {tl : List (Option q_V)} {v : Int32} (ok : q_ok x cc own fr lo) (hd : decode cc pc = .ok (.istore_n 0, 1)) (kk : q_W x (pc + 1) (some (.inl v) :: tl) st Wd) : q_W x pc (a0 :: tl) (.inl v :: st) Wd := q_istore_nG (i := 0) ok (by show 0 < _; simp) rfl hd kk
theorem q_astore_0 {x : q_X} {cc : ByteArray} {own : String} {fr lo pc : Nat} {st : List q_V} {Wd : List q_E} {a0 : Option q_V} {tl : List (Option q_V)} {v : Nat} (ok : q_ok x cc own fr lo) (hd : decode cc pc = .ok (.astore_n 0, 1)) (kk : q_W x (pc + 1) (some (.inr (.inr (some v))) :: tl) st Wd) : q_W x pc (a0 :: tl) (.inr (.inr (some v)) :: st) Wd := q_astore_nG (i := 0) ok (by show 0 < _; simp) rfl hd kk
theorem q_lstore_0 {x : q_X} {cc : ByteArray} {own : String} {fr lo pc : Nat} {st : List q_V} {Wd : List q_E} {a0 a1 : Option q_V} {tl : List (Option q_V)} {v : Int64} (ok : q_ok x cc own fr lo) (hd : decode cc pc = .ok (.lstore_n 0, 1)) (kk : q_W x (pc + 1) (some (.inr (.inl v)) :: none :: tl) st Wd) : q_W x pc (a0 :: a1 :: tl) (.inr (.inl v) :: st) Wd := q_lstore_nG (i := 0) ok (by show 0 + 1 < _; simp) rfl hd kk
theorem q_iinc_0 {x : q_X} {cc : ByteArray} {own : String} {fr lo pc : Nat} {st : List q_V} {Wd : List q_E} {tl : List (Option q_V)} {n : Int} {v : Int32} (u : Int32) (ok : q_ok x cc own fr lo) (hu : Int32.ofInt n = u) (hd : decode cc pc = .ok (.iinc 0 n, 3)) (kk : q_W x (pc + 3) (some (.inl (v + u)) :: tl) st Wd) : q_W x pc (some (.inl v) :: tl) st Wd := q_iincG (i := 0) ok rfl rfl hd (by rw [hu]; exact kk)
theorem q_istore_1 {x : q_X} {cc : ByteArray} {own : String} {fr lo pc : Nat} {st : List q_V} {Wd : List q_E} {a0 a1 : Option q_V} {tl : List (Option q_V)} {v : Int32} (ok : q_ok x cc own fr lo) (hp : q_nol a0 = true) (hd : decode cc pc = .ok (.istore_n 1, 1)) (kk : q_W x (pc + 1) (a0 :: some (.inl v) :: tl) st Wd) : q_W x pc (a0 :: a1 :: tl) (.inl v :: st) Wd := q_istore_nG (i := 1) ok (by show 1 < _; simp) hp hd kk
theorem q_astore_1 {x : q_X} {cc : ByteArray} {own : String} {fr lo pc : Nat} {st : List q_V} {Wd : List q_E} {a0 a1 : Option q_V} {tl : List (Option q_V)} {v : Nat} (ok : q_ok x cc own fr lo) (hp : q_nol a0 = true) (hd : decode cc pc = .ok (.astore_n 1, 1)) (kk : q_W x (pc + 1) (a0 :: some (.inr (.inr (some v))) :: tl) st Wd) : q_W x pc (a0 :: a1 :: tl) (.inr (.inr (some v)) :: st) Wd := q_astore_nG (i := 1) ok (by show 1 < _; simp) hp hd kk
theorem q_lstore_1 {x : q_X} {cc : ByteArray} {own : String} {fr lo pc : Nat} {st : List q_V} {Wd : List q_E} {a0 a1 a2 : Option q_V} {tl : List (Option q_V)} {v : Int64} (ok : q_ok x cc own fr lo) (hp : q_nol a0 = true) (hd : decode cc pc = .ok (.lstore_n 1, 1)) (kk : q_W x (pc + 1) (a0 :: some (.inr (.inl v)) :: none :: tl) st Wd) : q_W x pc (a0 :: a1 :: a2 :: tl) (.inr (.inl v) :: st) Wd := q_lstore_nG (i := 1) ok (by show 1 + 1 < _; simp) hp hd kk
theorem q_iinc_1 {x : q_X} {cc : ByteArray} {own : String} {fr lo pc : Nat} {st : List q_V} {Wd : List q_E} {a0 : Option q_V} {tl : List (Option q_V)} {n : Int} {v : Int32} (u : Int32) (ok : q_ok x cc own fr lo) (hp : q_nol a0 = true) (hu : Int32.ofInt n = u) (hd : decode cc pc = .ok (.iinc 1 n, 3)) (kk : q_W x (pc + 3) (a0 :: some (.inl (v + u)) :: tl) st Wd) : q_W x pc (a0 :: some (.inl v) :: tl) st Wd := q_iincG (i := 1) ok rfl hp hd (by rw [hu]; exact kk)
theorem q_istore_2 {x : q_X} {cc : ByteArray} {own : String} {fr lo pc : Nat} {st : List q_V} {Wd : List q_E} {a0 a1 a2 : Option q_V} {tl : List (Option q_V)} {v : Int32} (ok : q_ok x cc own fr lo) (hp : q_nol a1 = true) (hd : decode cc pc = .ok (.istore_n 2, 1)) (kk : q_W x (pc + 1) (a0 :: a1 :: some (.inl v) :: tl) st Wd) : q_W x pc (a0 :: a1 :: a2 :: tl) (.inl v :: st) Wd := q_istore_nG (i := 2) ok (by show 2 < _; simp) hp hd kk
theorem q_astore_2 {x : q_X} {cc : ByteArray} {own : String} {fr lo pc : Nat} {st : List q_V} {Wd : List q_E} {a0 a1 a2 : Option q_V} {tl : List (Option q_V)} {v : Nat} (ok : q_ok x cc own fr lo) (hp : q_nol a1 = true) (hd : decode cc pc = .ok (.astore_n 2, 1)) (kk : q_W x (pc + 1) (a0 :: a1 :: some (.inr (.inr (some v))) :: tl) st Wd) : q_W x pc (a0 :: a1 :: a2 :: tl) (.inr (.inr (some v)) :: st) Wd := q_astore_nG (i := 2) ok (by show 2 < _; simp) hp hd kk
theorem q_lstore_2 {x : q_X} {cc : ByteArray} {own : String} {fr lo pc : Nat} {st : List q_V} {Wd : List q_E} {a0 a1 a2 a3 : Option q_V} {tl : List (Option q_V)} {v : Int64} (ok : q_ok x cc own fr lo) (hp : q_nol a1 = true) (hd : decode cc pc = .ok (.lstore_n 2, 1)) (kk : q_W x (pc + 1) (a0 :: a1 :: some (.inr (.inl v)) :: none :: tl) st Wd) : q_W x pc (a0 :: a1 :: a2 :: a3 :: tl) (.inr (.inl v) :: st) Wd := q_lstore_nG (i := 2) ok (by show 2 + 1 < _; simp) hp hd kk
theorem q_iinc_2 {x : q_X} {cc : ByteArray} {own : String} {fr lo pc : Nat} {st : List q_V} {Wd : List q_E} {a0 a1 : Option q_V} {tl : List (Option q_V)} {n : Int} {v : Int32} (u : Int32) (ok : q_ok x cc own fr lo) (hp : q_nol a1 = true) (hu : Int32.ofInt n = u) (hd : decode cc pc = .ok (.iinc 2 n, 3)) (kk : q_W x (pc + 3) (a0 :: a1 :: some (.inl (v + u)) :: tl) st Wd) : q_W x pc (a0 :: a1 :: some (.inl v) :: tl) st Wd := q_iincG (i := 2) ok rfl hp hd (by rw [hu]; exact kk)
theorem q_istore_3 {x : q_X} {cc : ByteArray} {own : String} {fr lo pc : Nat} {st : List q_V} {Wd : List q_E} {a0 a1 a2 a3 : Option q_V} {tl : List (Option q_V)} {v : Int32} (ok : q_ok x cc own fr lo) (hp : q_nol a2 = true) (hd : decode cc pc = .ok (.istore_n 3, 1)) (kk : q_W x (pc + 1) (a0 :: a1 :: a2 :: some (.inl v) :: tl) st Wd) : q_W x pc (a0 :: a1 :: a2 :: a3 :: tl) (.inl v :: st) Wd := q_istore_nG (i := 3) ok (by show 3 < _; simp) hp hd kk
theorem q_astore_3 {x : q_X} {cc : ByteArray} {own : String} {fr lo pc : Nat} {st : List q_V} {Wd : List q_E} {a0 a1 a2 a3 : Option q_V} {tl : List (Option q_V)} {v : Nat} (ok : q_ok x cc own fr lo) (hp : q_nol a2 = true) (hd : decode cc pc = .ok (.astore_n 3, 1)) (kk : q_W x (pc + 1) (a0 :: a1 :: a2 :: some (.inr (.inr (some v))) :: tl) st Wd) : q_W x pc (a0 :: a1 :: a2 :: a3 :: tl) (.inr (.inr (some v)) :: st) Wd := q_astore_nG (i := 3) ok (by show 3 < _; simp) hp hd kk
theorem q_lstore_3 {x : q_X} {cc : ByteArray} {own : String} {fr lo pc : Nat} {st : List q_V} {Wd : List q_E} {a0 a1 a2 a3 a4 : Option q_V} {tl : List (Option q_V)} {v : Int64} (ok : q_ok x cc own fr lo) (hp : q_nol a2 = true) (hd : decode cc pc = .ok (.lstore_n 3, 1)) (kk : q_W x (pc + 1) (a0 :: a1 :: a2 :: some (.inr (.inl v)) :: none :: tl) st Wd) : q_W x pc (a0 :: a1 :: a2 :: a3 :: a4 :: tl) (.inr (.inl v) :: st) Wd := q_lstore_nG (i := 3) ok (by show 3 + 1 < _; simp) hp hd kk
theorem q_iinc_3 {x : q_X} {cc : ByteArray} {own : String} {fr lo pc : Nat} {st : List q_V} {Wd : List q_E} {a0 a1 a2 : Option q_V} {tl : List (Option q_V)} {n : Int} {v : Int32} (u : Int32) (ok : q_ok x cc own fr lo) (hp : q_nol a2 = true) (hu : Int32.ofInt n = u) (hd : decode cc pc = .ok (.iinc 3 n, 3)) (kk : q_W x (pc + 3) (a0 :: a1 :: a2 :: some (.inl (v + u)) :: tl) st Wd) : q_W x pc (a0 :: a1 :: a2 :: some (.inl v) :: tl) st Wd := q_iincG (i := 3) ok rfl hp hd (by rw [hu]; exact kk)
theorem q_istore_4 {x : q_X} {cc : ByteArray} {own : String} {fr lo pc : Nat} {st : List q_V} {Wd : List q_E} {a0 a1 a2 a3 a4 : Option q_V} {tl : List (Option q_V)} {v : Int32} (ok : q_ok x cc own fr lo) (hp : q_nol a3 = true) (hd : decode cc pc = .ok (.istore 4, 2)) (kk : q_W x (pc + 2) (a0 :: a1 :: a2 :: a3 :: some (.inl v) :: tl) st Wd) : q_W x pc (a0 :: a1 :: a2 :: a3 :: a4 :: tl) (.inl v :: st) Wd := q_istoreG (i := 4) ok (by show 4 < _; simp) hp hd kk
theorem q_astore_4 {x : q_X} {cc : ByteArray} {own : String} {fr lo pc : Nat} {st : List q_V} {Wd : List q_E} {a0 a1 a2 a3 a4 : Option q_V} {tl : List (Option q_V)} {v : Nat} (ok : q_ok x cc own fr lo) (hp : q_nol a3 = true) (hd : decode cc pc = .ok (.astore 4, 2)) (kk : q_W x (pc + 2) (a0 :: a1 :: a2 :: a3 :: some (.inr (.inr (some v))) :: tl) st Wd) : q_W x pc (a0 :: a1 :: a2 :: a3 :: a4 :: tl) (.inr (.inr (some v)) :: st) Wd := q_astoreG (i := 4) ok (by show 4 < _; simp) hp hd kk
theorem q_lstore_4 {x : q_X} {cc : ByteArray} {own : String} {fr lo pc : Nat} {st : List q_V} {Wd : List q_E} {a0 a1 a2 a3 a4 a5 : Option q_V} {tl : List (Option q_V)} {v : Int64} (ok : q_ok x cc own fr lo) (hp : q_nol a3 = true) (hd : decode cc pc = .ok (.lstore 4, 2)) (kk : q_W x (pc + 2) (a0 :: a1 :: a2 :: a3 :: some (.inr (.inl v)) :: none :: tl) st Wd) : q_W x pc (a0 :: a1 :: a2 :: a3 :: a4 :: a5 :: tl) (.inr (.inl v) :: st) Wd := q_lstoreG (i := 4) ok (by show 4 + 1 < _; simp) hp hd kk
theorem q_iinc_4 {x : q_X} {cc : ByteArray} {own : String} {fr lo pc : Nat} {st : List q_V} {Wd : List q_E} {a0 a1 a2 a3 : Option q_V} {tl : List (Option q_V)} {n : Int} {v : Int32} (u : Int32) (ok : q_ok x cc own fr lo) (hp : q_nol a3 = true) (hu : Int32.ofInt n = u) (hd : decode cc pc = .ok (.iinc 4 n, 3)) (kk : q_W x (pc + 3) (a0 :: a1 :: a2 :: a3 :: some (.inl (v + u)) :: tl) st Wd) : q_W x pc (a0 :: a1 :: a2 :: a3 :: some (.inl v) :: tl) st Wd := q_iincG (i := 4) ok rfl hp hd (by rw [hu]; exact kk)
theorem q_istore_5 {x : q_X} {cc : ByteArray} {own : String} {fr lo pc : Nat} {st : List q_V} {Wd : List q_E} {a0 a1 a2 a3 a4 a5 : Option q_V} {tl : List (Option q_V)} {v : Int32} (ok : q_ok x cc own fr lo) (hp : q_nol a4 = true) (hd : decode cc pc = .ok (.istore 5, 2)) (kk : q_W x (pc + 2) (a0 :: a1 :: a2 :: a3 :: a4 :: some (.inl v) :: tl) st Wd) : q_W x pc (a0 :: a1 :: a2 :: a3 :: a4 :: a5 :: tl) (.inl v :: st) Wd := q_istoreG (i := 5) ok (by show 5 < _; simp) hp hd kk
theorem q_astore_5 {x : q_X} {cc : ByteArray} {own : String} {fr lo pc : Nat} {st : List q_V} {Wd : List q_E} {a0 a1 a2 a3 a4 a5 : Option q_V} {tl : List (Option q_V)} {v : Nat} (ok : q_ok x cc own fr lo) (hp : q_nol a4 = true) (hd : decode cc pc = .ok (.astore 5, 2)) (kk : q_W x (pc + 2) (a0 :: a1 :: a2 :: a3 :: a4 :: some (.inr (.inr (some v))) :: tl) st Wd) : q_W x pc (a0 :: a1 :: a2 :: a3 :: a4 :: a5 :: tl) (.inr (.inr (some v)) :: st) Wd := q_astoreG (i := 5) ok (by show 5 < _; simp) hp hd kk
theorem q_lstore_5 {x : q_X} {cc : ByteArray} {own : String} {fr lo pc : Nat} {st : List q_V} {Wd : List q_E} {a0 a1 a2 a3 a4 a5 a6 : Option q_V} {tl : List (Option q_V)} {v : Int64} (ok : q_ok x cc own fr lo) (hp : q_nol a4 = true) (hd : decode cc pc = .ok (.lstore 5, 2)) (kk : q_W x (pc + 2) (a0 :: a1 :: a2 :: a3 :: a4 :: some (.inr (.inl v)) :: none :: tl) st Wd) : q_W x pc (a0 :: a1 :: a2 :: a3 :: a4 :: a5 :: a6 :: tl) (.inr (.inl v) :: st) Wd := q_lstoreG (i := 5) ok (by show 5 + 1 < _; simp) hp hd kk
theorem q_iinc_5 {x : q_X} {cc : ByteArray} {own : String} {fr lo pc : Nat} {st : List q_V} {Wd : List q_E} {a0 a1 a2 a3 a4 : Option q_V} {tl : List (Option q_V)} {n : Int} {v : Int32} (u : Int32) (ok : q_ok x cc own fr lo) (hp : q_nol a4 = true) (hu : Int32.ofInt n = u) (hd : decode cc pc = .ok (.iinc 5 n, 3)) (kk : q_W x (pc + 3) (a0 :: a1 :: a2 :: a3 :: a4 :: some (.inl (v + u)) :: tl) st Wd) : q_W x pc (a0 :: a1 :: a2 :: a3 :: a4 :: some (.inl v) :: tl) st Wd := q_iincG (i := 5) ok rfl hp hd (by rw [hu]; exact kk)
theorem q_istore_6 {x : q_X} {cc : ByteArray} {own : String} {fr lo pc : Nat} {st : List q_V} {Wd : List q_E} {a0 a1 a2 a3 a4 a5 a6 : Option q_V} {tl : List (Option q_V)} {v : Int32} (ok : q_ok x cc own fr lo) (hp : q_nol a5 = true) (hd : decode cc pc = .ok (.istore 6, 2)) (kk : q_W x (pc + 2) (a0 :: a1 :: a2 :: a3 :: a4 :: a5 :: some (.inl v) :: tl) st Wd) : q_W x pc (a0 :: a1 :: a2 :: a3 :: a4 :: a5 :: a6 :: tl) (.inl v :: st) Wd := q_istoreG (i := 6) ok (by show 6 < _; simp) hp hd kk
theorem q_astore_6 {x : q_X} {cc : ByteArray} {own : String} {fr lo pc : Nat} {st : List q_V} {Wd : List q_E} {a0 a1 a2 a3 a4 a5 a6 : Option q_V} {tl : List (Option q_V)} {v : Nat} (ok : q_ok x cc own fr lo) (hp : q_nol a5 = true) (hd : decode cc pc = .ok (.astore 6, 2)) (kk : q_W x (pc + 2) (a0 :: a1 :: a2 :: a3 :: a4 :: a5 :: some (.inr (.inr (some v))) :: tl) st Wd) : q_W x pc (a0 :: a1 :: a2 :: a3 :: a4 :: a5 :: a6 :: tl) (.inr (.inr (some v)) :: st) Wd := q_astoreG (i := 6) ok (by show 6 < _; simp) hp hd kk
theorem q_lstore_6 {x : q_X} {cc : ByteArray} {own : String} {fr lo pc : Nat} {st : List q_V} {Wd : List q_E} {a0 a1 a2 a3 a4 a5 a6 a7 : Option q_V} {tl : List (Option q_V)} {v : Int64} (ok : q_ok x cc own fr lo) (hp : q_nol a5 = true) (hd : decode cc pc = .ok (.lstore 6, 2)) (kk : q_W x (pc + 2) (a0 :: a1 :: a2 :: a3 :: a4 :: a5 :: some (.inr (.inl v)) :: none :: tl) st Wd) : q_W x pc (a0 :: a1 :: a2 :: a3 :: a4 :: a5 :: a6 :: a7 :: tl) (.inr (.inl v) :: st) Wd := q_lstoreG (i := 6) ok (by show 6 + 1 < _; simp) hp hd kk
theorem q_iinc_6 {x : q_X} {cc : ByteArray} {own : String} {fr lo pc : Nat} {st : List q_V} {Wd : List q_E} {a0 a1 a2 a3 a4 a5 : Option q_V} {tl : List (Option q_V)} {n : Int} {v : Int32} (u : Int32) (ok : q_ok x cc own fr lo) (hp : q_nol a5 = true) (hu : Int32.ofInt n = u) (hd : decode cc pc = .ok (.iinc 6 n, 3)) (kk : q_W x (pc + 3) (a0 :: a1 :: a2 :: a3 :: a4 :: a5 :: some (.inl (v + u)) :: tl) st Wd) : q_W x pc (a0 :: a1 :: a2 :: a3 :: a4 :: a5 :: some (.inl v) :: tl) st Wd := q_iincG (i := 6) ok rfl hp hd (by rw [hu]; exact kk)
theorem q_istore_7 {x : q_X} {cc : ByteArray} {own : String} {fr lo pc : Nat} {st : List q_V} {Wd : List q_E} {a0 a1 a2 a3 a4 a5 a6 a7 : Option q_V} {tl : List (Option q_V)} {v : Int32} (ok : q_ok x cc own fr lo) (hp : q_nol a6 = true) (hd : decode cc pc = .ok (.istore 7, 2)) (kk : q_W x (pc + 2) (a0 :: a1 :: a2 :: a3 :: a4 :: a5 :: a6 :: some (.inl v) :: tl) st Wd) : q_W x pc (a0 :: a1 :: a2 :: a3 :: a4 :: a5 :: a6 :: a7 :: tl) (.inl v :: st) Wd := q_istoreG (i := 7) ok (by show 7 < _; simp) hp hd kk
theorem q_astore_7 {x : q_X} {cc : ByteArray} {own : String} {fr lo pc : Nat} {st : List q_V} {Wd : List q_E} {a0 a1 a2 a3 a4 a5 a6 a7 : Option q_V} {tl : List (Option q_V)} {v : Nat} (ok : q_ok x cc own fr lo) (hp : q_nol a6 = true) (hd : decode cc pc = .ok (.astore 7, 2)) (kk : q_W x (pc + 2) (a0 :: a1 :: a2 :: a3 :: a4 :: a5 :: a6 :: some (.inr (.inr (some v))) :: tl) st Wd) : q_W x pc (a0 :: a1 :: a2 :: a3 :: a4 :: a5 :: a6 :: a7 :: tl) (.inr (.inr (some v)) :: st) Wd := q_astoreG (i := 7) ok (by show 7 < _; simp) hp hd kk
theorem q_lstore_7 {x : q_X} {cc : ByteArray} {own : String} {fr lo pc : Nat} {st : List q_V} {Wd : List q_E} {a0 a1 a2 a3 a4 a5 a6 a7 a8 : Option q_V} {tl : List (Option q_V)} {v : Int64} (ok : q_ok x cc own fr lo) (hp : q_nol a6 = true) (hd : decode cc pc = .ok (.lstore 7, 2)) (kk : q_W x (pc + 2) (a0 :: a1 :: a2 :: a3 :: a4 :: a5 :: a6 :: some (.inr (.inl v)) :: none :: tl) st Wd) : q_W x pc (a0 :: a1 :: a2 :: a3 :: a4 :: a5 :: a6 :: a7 :: a8 :: tl) (.inr (.inl v) :: st) Wd := q_lstoreG (i := 7) ok (by show 7 + 1 < _; simp) hp hd kk
theorem q_iinc_7 {x : q_X} {cc : ByteArray} {own : String} {fr lo pc : Nat} {st : List q_V} {Wd : List q_E} {a0 a1 a2 a3 a4 a5 a6 : Option q_V} {tl : List (Option q_V)} {n : Int} {v : Int32} (u : Int32) (ok : q_ok x cc own fr lo) (hp : q_nol a6 = true) (hu : Int32.ofInt n = u) (hd : decode cc pc = .ok (.iinc 7 n, 3)) (kk : q_W x (pc + 3) (a0 :: a1 :: a2 :: a3 :: a4 :: a5 :: a6 :: some (.inl (v + u)) :: tl) st Wd) : q_W x pc (a0 :: a1 :: a2 :: a3 :: a4 :: a5 :: a6 :: some (.inl v) :: tl) st Wd := q_iincG (i := 7) ok rfl hp hd (by rw [hu]; exact kk)
theorem q_istore_8 {x : q_X} {cc : ByteArray} {own : String} {fr lo pc : Nat} {st : List q_V} {Wd : List q_E} {a0 a1 a2 a3 a4 a5 a6 a7 a8 : Option q_V} {tl : List (Option q_V)} {v : Int32} (ok : q_ok x cc own fr lo) (hp : q_nol a7 = true) (hd : decode cc pc = .ok (.istore 8, 2)) (kk : q_W x (pc + 2) (a0 :: a1 :: a2 :: a3 :: a4 :: a5 :: a6 :: a7 :: some (.inl v) :: tl) st Wd) : q_W x pc (a0 :: a1 :: a2 :: a3 :: a4 :: a5 :: a6 :: a7 :: a8 :: tl) (.inl v :: st) Wd := q_istoreG (i := 8) ok (by show 8 < _; simp) hp hd kk
theorem q_astore_8 {x : q_X} {cc : ByteArray} {own : String} {fr lo pc : Nat} {st : List q_V} {Wd : List q_E} {a0 a1 a2 a3 a4 a5 a6 a7 a8 : Option q_V} {tl : List (Option q_V)} {v : Nat} (ok : q_ok x cc own fr lo) (hp : q_nol a7 = true) (hd : decode cc pc = .ok (.astore 8, 2)) (kk : q_W x (pc + 2) (a0 :: a1 :: a2 :: a3 :: a4 :: a5 :: a6 :: a7 :: some (.inr (.inr (some v))) :: tl) st Wd) : q_W x pc (a0 :: a1 :: a2 :: a3 :: a4 :: a5 :: a6 :: a7 :: a8 :: tl) (.inr (.inr (some v)) :: st) Wd := q_astoreG (i := 8) ok (by show 8 < _; simp) hp hd kk
theorem q_lstore_8 {x : q_X} {cc : ByteArray} {own : String} {fr lo pc : Nat} {st : List q_V} {Wd : List q_E} {a0 a1 a2 a3 a4 a5 a6 a7 a8 a9 : Option q_V} {tl : List (Option q_V)} {v : Int64} (ok : q_ok x cc own fr lo) (hp : q_nol a7 = true) (hd : decode cc pc = .ok (.lstore 8, 2)) (kk : q_W x (pc + 2) (a0 :: a1 :: a2 :: a3 :: a4 :: a5 :: a6 :: a7 :: some (.inr (.inl v)) :: none :: tl) st Wd) : q_W x pc (a0 :: a1 :: a2 :: a3 :: a4 :: a5 :: a6 :: a7 :: a8 :: a9 :: tl) (.inr (.inl v) :: st) Wd := q_lstoreG (i := 8) ok (by show 8 + 1 < _; simp) hp hd kk
theorem q_iinc_8 {x : q_X} {cc : ByteArray} {own : String} {fr lo pc : Nat} {st : List q_V} {Wd : List q_E} {a0 a1 a2 a3 a4 a5 a6 a7 : Option q_V} {tl : List (Option q_V)} {n : Int} {v : Int32} (u : Int32) (ok : q_ok x cc own fr lo) (hp : q_nol a7 = true) (hu : Int32.ofInt n = u) (hd : decode cc pc = .ok (.iinc 8 n, 3)) (kk : q_W x (pc + 3) (a0 :: a1 :: a2 :: a3 :: a4 :: a5 :: a6 :: a7 :: some (.inl (v + u)) :: tl) st Wd) : q_W x pc (a0 :: a1 :: a2 :: a3 :: a4 :: a5 :: a6 :: a7 :: some (.inl v) :: tl) st Wd := q_iincG (i := 8) ok rfl hp hd (by rw [hu]; exact kk)
theorem q_istore_9 {x : q_X} {cc : ByteArray} {own : String} {fr lo pc : Nat} {st : List q_V} {Wd : List q_E} {a0 a1 a2 a3 a4 a5 a6 a7 a8 a9 : Option q_V} {tl : List (Option q_V)} {v : Int32} (ok : q_ok x cc own fr lo) (hp : q_nol a8 = true) (hd : decode cc pc = .ok (.istore 9, 2)) (kk : q_W x (pc + 2) (a0 :: a1 :: a2 :: a3 :: a4 :: a5 :: a6 :: a7 :: a8 :: some (.inl v) :: tl) st Wd) : q_W x pc (a0 :: a1 :: a2 :: a3 :: a4 :: a5 :: a6 :: a7 :: a8 :: a9 :: tl) (.inl v :: st) Wd := q_istoreG (i := 9) ok (by show 9 < _; simp) hp hd kk
theorem q_astore_9 {x : q_X} {cc : ByteArray} {own : String} {fr lo pc : Nat} {st : List q_V} {Wd : List q_E} {a0 a1 a2 a3 a4 a5 a6 a7 a8 a9 : Option q_V} {tl : List (Option q_V)} {v : Nat} (ok : q_ok x cc own fr lo) (hp : q_nol a8 = true) (hd : decode cc pc = .ok (.astore 9, 2)) (kk : q_W x (pc + 2) (a0 :: a1 :: a2 :: a3 :: a4 :: a5 :: a6 :: a7 :: a8 :: some (.inr (.inr (some v))) :: tl) st Wd) : q_W x pc (a0 :: a1 :: a2 :: a3 :: a4 :: a5 :: a6 :: a7 :: a8 :: a9 :: tl) (.inr (.inr (some v)) :: st) Wd := q_astoreG (i := 9) ok (by show 9 < _; simp) hp hd kk
theorem q_lstore_9 {x : q_X} {cc : ByteArray} {own : String} {fr lo pc : Nat} {st : List q_V} {Wd : List q_E} {a0 a1 a2 a3 a4 a5 a6 a7 a8 a9 a10 : Option q_V} {tl : List (Option q_V)} {v : Int64} (ok : q_ok x cc own fr lo) (hp : q_nol a8 = true) (hd : decode cc pc = .ok (.lstore 9, 2)) (kk : q_W x (pc + 2) (a0 :: a1 :: a2 :: a3 :: a4 :: a5 :: a6 :: a7 :: a8 :: some (.inr (.inl v)) :: none :: tl) st Wd) : q_W x pc (a0 :: a1 :: a2 :: a3 :: a4 :: a5 :: a6 :: a7 :: a8 :: a9 :: a10 :: tl) (.inr (.inl v) :: st) Wd := q_lstoreG (i := 9) ok (by show 9 + 1 < _; simp) hp hd kk
theorem q_iinc_9 {x : q_X} {cc : ByteArray} {own : String} {fr lo pc : Nat} {st : List q_V} {Wd : List q_E} {a0 a1 a2 a3 a4 a5 a6 a7 a8 : Option q_V} {tl : List (Option q_V)} {n : Int} {v : Int32} (u : Int32) (ok : q_ok x cc own fr lo) (hp : q_nol a8 = true) (hu : Int32.ofInt n = u) (hd : decode cc pc = .ok (.iinc 9 n, 3)) (kk : q_W x (pc + 3) (a0 :: a1 :: a2 :: a3 :: a4 :: a5 :: a6 :: a7 :: a8 :: some (.inl (v + u)) :: tl) st Wd) : q_W x pc (a0 :: a1 :: a2 :: a3 :: a4 :: a5 :: a6 :: a7 :: a8 :: some (.inl v) :: tl) st Wd := q_iincG (i := 9) ok rfl hp hd (by rw [hu]; exact kk)
theorem q_istore_10 {x : q_X} {cc : ByteArray} {own : String} {fr lo pc : Nat} {st : List q_V} {Wd : List q_E} {a0 a1 a2 a3 a4 a5 a6 a7 a8 a9 a10 : Option q_V} {tl : List (Option q_V)} {v : Int32} (ok : q_ok x cc own fr lo) (hp : q_nol a9 = true) (hd : decode cc pc = .ok (.istore 10, 2)) (kk : q_W x (pc + 2) (a0 :: a1 :: a2 :: a3 :: a4 :: a5 :: a6 :: a7 :: a8 :: a9 :: some (.inl v) :: tl) st Wd) : q_W x pc (a0 :: a1 :: a2 :: a3 :: a4 :: a5 :: a6 :: a7 :: a8 :: a9 :: a10 :: tl) (.inl v :: st) Wd := q_istoreG (i := 10) ok (by show 10 < _; simp) hp hd kk
theorem q_lstore_10 {x : q_X} {cc : ByteArray} {own : String} {fr lo pc : Nat} {st : List q_V} {Wd : List q_E} {a0 a1 a2 a3 a4 a5 a6 a7 a8 a9 a10 a11 : Option q_V} {tl : List (Option q_V)} {v : Int64} (ok : q_ok x cc own fr lo) (hp : q_nol a9 = true) (hd : decode cc pc = .ok (.lstore 10, 2)) (kk : q_W x (pc + 2) (a0 :: a1 :: a2 :: a3 :: a4 :: a5 :: a6 :: a7 :: a8 :: a9 :: some (.inr (.inl v)) :: none :: tl) st Wd) : q_W x pc (a0 :: a1 :: a2 :: a3 :: a4 :: a5 :: a6 :: a7 :: a8 :: a9 :: a10 :: a11 :: tl) (.inr (.inl v) :: st) Wd := q_lstoreG (i := 10) ok (by show 10 + 1 < _; simp) hp hd kk
theorem q_iinc_10 {x : q_X} {cc : ByteArray} {own : String} {fr lo pc : Nat} {st : List q_V} {Wd : List q_E} {a0 a1 a2 a3 a4 a5 a6 a7 a8 a9 : Option q_V} {tl : List (Option q_V)} {n : Int} {v : Int32} (u : Int32) (ok : q_ok x cc own fr lo) (hp : q_nol a9 = true) (hu : Int32.ofInt n = u) (hd : decode cc pc = .ok (.iinc 10 n, 3)) (kk : q_W x (pc + 3) (a0 :: a1 :: a2 :: a3 :: a4 :: a5 :: a6 :: a7 :: a8 :: a9 :: some (.inl (v + u)) :: tl) st Wd) : q_W x pc (a0 :: a1 :: a2 :: a3 :: a4 :: a5 :: a6 :: a7 :: a8 :: a9 :: some (.inl v) :: tl) st Wd := q_iincG (i := 10) ok rfl hp hd (by rw [hu]; exact kk)
theorem q_istore_11 {x : q_X} {cc : ByteArray} {own : String} {fr lo pc : Nat} {st : List q_V} {Wd : List q_E} {a0 a1 a2 a3 a4 a5 a6 a7 a8 a9 a10 a11 : Option q_V} {tl : List (Option q_V)} {v : Int32} (ok : q_ok x cc own fr lo) (hp : q_nol a10 = true) (hd : decode cc pc = .ok (.istore 11, 2)) (kk : q_W x (pc + 2) (a0 :: a1 :: a2 :: a3 :: a4 :: a5 :: a6 :: a7 :: a8 :: a9 :: a10 :: some (.inl v) :: tl) st Wd) : q_W x pc (a0 :: a1 :: a2 :: a3 :: a4 :: a5 :: a6 :: a7 :: a8 :: a9 :: a10 :: a11 :: tl) (.inl v :: st) Wd := q_istoreG (i := 11) ok (by show 11 < _; simp) hp hd kk
theorem q_lstore_11 {x : q_X} {cc : ByteArray} {own : String} {fr lo pc : Nat} {st : List q_V} {Wd : List q_E} {a0 a1 a2 a3 a4 a5 a6 a7 a8 a9 a10 a11 a12 : Option q_V} {tl : List (Option q_V)} {v : Int64} (ok : q_ok x cc own fr lo) (hp : q_nol a10 = true) (hd : decode cc pc = .ok (.lstore 11, 2)) (kk : q_W x (pc + 2) (a0 :: a1 :: a2 :: a3 :: a4 :: a5 :: a6 :: a7 :: a8 :: a9 :: a10 :: some (.inr (.inl v)) :: none :: tl) st Wd) : q_W x pc (a0 :: a1 :: a2 :: a3 :: a4 :: a5 :: a6 :: a7 :: a8 :: a9 :: a10 :: a11 :: a12 :: tl) (.inr (.inl v) :: st) Wd := q_lstoreG (i := 11) ok (by show 11 + 1 < _; simp) hp hd kk
theorem q_iinc_11 {x : q_X} {cc : ByteArray} {own : String} {fr lo pc : Nat} {st : List q_V} {Wd : List q_E} {a0 a1 a2 a3 a4 a5 a6 a7 a8 a9 a10 : Option q_V} {tl : List (Option q_V)} {n : Int} {v : Int32} (u : Int32) (ok : q_ok x cc own fr lo) (hp : q_nol a10 = true) (hu : Int32.ofInt n = u) (hd : decode cc pc = .ok (.iinc 11 n, 3)) (kk : q_W x (pc + 3) (a0 :: a1 :: a2 :: a3 :: a4 :: a5 :: a6 :: a7 :: a8 :: a9 :: a10 :: some (.inl (v + u)) :: tl) st Wd) : q_W x pc (a0 :: a1 :: a2 :: a3 :: a4 :: a5 :: a6 :: a7 :: a8 :: a9 :: a10 :: some (.inl v) :: tl) st Wd := q_iincG (i := 11) ok rfl hp hd (by rw [hu]; exact kk)
theorem q_istore_12 {x : q_X} {cc : ByteArray} {own : String} {fr lo pc : Nat} {st : List q_V} {Wd : List q_E} {a0 a1 a2 a3 a4 a5 a6 a7 a8 a9 a10 a11 a12 : Option q_V} {tl : List (Option q_V)} {v : Int32} (ok : q_ok x cc own fr lo) (hp : q_nol a11 = true) (hd : decode cc pc = .ok (.istore 12, 2)) (kk : q_W x (pc + 2) (a0 :: a1 :: a2 :: a3 :: a4 :: a5 :: a6 :: a7 :: a8 :: a9 :: a10 :: a11 :: some (.inl v) :: tl) st Wd) : q_W x pc (a0 :: a1 :: a2 :: a3 :: a4 :: a5 :: a6 :: a7 :: a8 :: a9 :: a10 :: a11 :: a12 :: tl) (.inl v :: st) Wd := q_istoreG (i := 12) ok (by show 12 < _; simp) hp hd kk
theorem q_lstore_12 {x : q_X} {cc : ByteArray} {own : String} {fr lo pc : Nat} {st : List q_V} {Wd : List q_E} {a0 a1 a2 a3 a4 a5 a6 a7 a8 a9 a10 a11 a12 a13 : Option q_V} {tl : List (Option q_V)} {v : Int64} (ok : q_ok x cc own fr lo) (hp : q_nol a11 = true) (hd : decode cc pc = .ok (.lstore 12, 2)) (kk : q_W x (pc + 2) (a0 :: a1 :: a2 :: a3 :: a4 :: a5 :: a6 :: a7 :: a8 :: a9 :: a10 :: a11 :: some (.inr (.inl v)) :: none :: tl) st Wd) : q_W x pc (a0 :: a1 :: a2 :: a3 :: a4 :: a5 :: a6 :: a7 :: a8 :: a9 :: a10 :: a11 :: a12 :: a13 :: tl) (.inr (.inl v) :: st) Wd := q_lstoreG (i := 12) ok (by show 12 + 1 < _; simp) hp hd kk
theorem q_iinc_12 {x : q_X} {cc : ByteArray} {own : String} {fr lo pc : Nat} {st : List q_V} {Wd : List q_E} {a0 a1 a2 a3 a4 a5 a6 a7 a8 a9 a10 a11 : Option q_V} {tl : List (Option q_V)} {n : Int} {v : Int32} (u : Int32) (ok : q_ok x cc own fr lo) (hp : q_nol a11 = true) (hu : Int32.ofInt n = u) (hd : decode cc pc = .ok (.iinc 12 n, 3)) (kk : q_W x (pc + 3) (a0 :: a1 :: a2 :: a3 :: a4 :: a5 :: a6 :: a7 :: a8 :: a9 :: a10 :: a11 :: some (.inl (v + u)) :: tl) st Wd) : q_W x pc (a0 :: a1 :: a2 :: a3 :: a4 :: a5 :: a6 :: a7 :: a8 :: a9 :: a10 :: a11 :: some (.inl v) :: tl) st Wd := q_iincG (i := 12) ok rfl hp hd (by rw [hu]; exact kk)
theorem q_istore_13 {x : q_X} {cc : ByteArray} {own : String} {fr lo pc : Nat} {st : List q_V} {Wd : List q_E} {a0 a1 a2 a3 a4 a5 a6 a7 a8 a9 a10 a11 a12 a13 : Option q_V} {tl : List (Option q_V)} {v : Int32} (ok : q_ok x cc own fr lo) (hp : q_nol a12 = true) (hd : decode cc pc = .ok (.istore 13, 2)) (kk : q_W x (pc + 2) (a0 :: a1 :: a2 :: a3 :: a4 :: a5 :: a6 :: a7 :: a8 :: a9 :: a10 :: a11 :: a12 :: some (.inl v) :: tl) st Wd) : q_W x pc (a0 :: a1 :: a2 :: a3 :: a4 :: a5 :: a6 :: a7 :: a8 :: a9 :: a10 :: a11 :: a12 :: a13 :: tl) (.inl v :: st) Wd := q_istoreG (i := 13) ok (by show 13 < _; simp) hp hd kk
theorem q_lstore_13 {x : q_X} {cc : ByteArray} {own : String} {fr lo pc : Nat} {st : List q_V} {Wd : List q_E} {a0 a1 a2 a3 a4 a5 a6 a7 a8 a9 a10 a11 a12 a13 a14 : Option q_V} {tl : List (Option q_V)} {v : Int64} (ok : q_ok x cc own fr lo) (hp : q_nol a12 = true) (hd : decode cc pc = .ok (.lstore 13, 2)) (kk : q_W x (pc + 2) (a0 :: a1 :: a2 :: a3 :: a4 :: a5 :: a6 :: a7 :: a8 :: a9 :: a10 :: a11 :: a12 :: some (.inr (.inl v)) :: none :: tl) st Wd) : q_W x pc (a0 :: a1 :: a2 :: a3 :: a4 :: a5 :: a6 :: a7 :: a8 :: a9 :: a10 :: a11 :: a12 :: a13 :: a14 :: tl) (.inr (.inl v) :: st) Wd := q_lstoreG (i := 13) ok (by show 13 + 1 < _; simp) hp hd kk
theorem q_iinc_13 {x : q_X} {cc : ByteArray} {own : String} {fr lo pc : Nat} {st : List q_V} {Wd : List q_E} {a0 a1 a2 a3 a4 a5 a6 a7 a8 a9 a10 a11 a12 : Option q_V} {tl : List (Option q_V)} {n : Int} {v : Int32} (u : Int32) (ok : q_ok x cc own fr lo) (hp : q_nol a12 = true) (hu : Int32.ofInt n = u) (hd : decode cc pc = .ok (.iinc 13 n, 3)) (kk : q_W x (pc + 3) (a0 :: a1 :: a2 :: a3 :: a4 :: a5 :: a6 :: a7 :: a8 :: a9 :: a10 :: a11 :: a12 :: some (.inl (v + u)) :: tl) st Wd) : q_W x pc (a0 :: a1 :: a2 :: a3 :: a4 :: a5 :: a6 :: a7 :: a8 :: a9 :: a10 :: a11 :: a12 :: some (.inl v) :: tl) st Wd := q_iincG (i := 13) ok rfl hp hd (by rw [hu]; exact kk)
theorem q_istore_14 {x : q_X} {cc : ByteArray} {own : String} {fr lo pc : Nat} {st : List q_V} {Wd : List q_E} {a0 a1 a2 a3 a4 a5 a6 a7 a8 a9 a10 a11 a12 a13 a14 : Option q_V} {tl : List (Option q_V)} {v : Int32} (ok : q_ok x cc own fr lo) (hp : q_nol a13 = true) (hd : decode cc pc = .ok (.istore 14, 2)) (kk : q_W x (pc + 2) (a0 :: a1 :: a2 :: a3 :: a4 :: a5 :: a6 :: a7 :: a8 :: a9 :: a10 :: a11 :: a12 :: a13 :: some (.inl v) :: tl) st Wd) : q_W x pc (a0 :: a1 :: a2 :: a3 :: a4 :: a5 :: a6 :: a7 :: a8 :: a9 :: a10 :: a11 :: a12 :: a13 :: a14 :: tl) (.inl v :: st) Wd := q_istoreG (i := 14) ok (by show 14 < _; simp) hp hd kk
theorem q_lstore_14 {x : q_X} {cc : ByteArray} {own : String} {fr lo pc : Nat} {st : List q_V} {Wd : List q_E} {a0 a1 a2 a3 a4 a5 a6 a7 a8 a9 a10 a11 a12 a13 a14 a15 : Option q_V} {tl : List (Option q_V)} {v : Int64} (ok : q_ok x cc own fr lo) (hp : q_nol a13 = true) (hd : decode cc pc = .ok (.lstore 14, 2)) (kk : q_W x (pc + 2) (a0 :: a1 :: a2 :: a3 :: a4 :: a5 :: a6 :: a7 :: a8 :: a9 :: a10 :: a11 :: a12 :: a13 :: some (.inr (.inl v)) :: none :: tl) st Wd) : q_W x pc (a0 :: a1 :: a2 :: a3 :: a4 :: a5 :: a6 :: a7 :: a8 :: a9 :: a10 :: a11 :: a12 :: a13 :: a14 :: a15 :: tl) (.inr (.inl v) :: st) Wd := q_lstoreG (i := 14) ok (by show 14 + 1 < _; simp) hp hd kk
theorem q_iinc_14 {x : q_X} {cc : ByteArray} {own : String} {fr lo pc : Nat} {st : List q_V} {Wd : List q_E} {a0 a1 a2 a3 a4 a5 a6 a7 a8 a9 a10 a11 a12 a13 : Option q_V} {tl : List (Option q_V)} {n : Int} {v : Int32} (u : Int32) (ok : q_ok x cc own fr lo) (hp : q_nol a13 = true) (hu : Int32.ofInt n = u) (hd : decode cc pc = .ok (.iinc 14 n, 3)) (kk : q_W x (pc + 3) (a0 :: a1 :: a2 :: a3 :: a4 :: a5 :: a6 :: a7 :: a8 :: a9 :: a10 :: a11 :: a12 :: a13 :: some (.inl (v + u)) :: tl) st Wd) : q_W x pc (a0 :: a1 :: a2 :: a3 :: a4 :: a5 :: a6 :: a7 :: a8 :: a9 :: a10 :: a11 :: a12 :: a13 :: some (.inl v) :: tl) st Wd := q_iincG (i := 14) ok rfl hp hd (by rw [hu]; exact kk)
theorem q_istore_15 {x : q_X} {cc : ByteArray} {own : String} {fr lo pc : Nat} {st : List q_V} {Wd : List q_E} {a0 a1 a2 a3 a4 a5 a6 a7 a8 a9 a10 a11 a12 a13 a14 a15 : Option q_V} {tl : List (Option q_V)} {v : Int32} (ok : q_ok x cc own fr lo) (hp : q_nol a14 = true) (hd : decode cc pc = .ok (.istore 15, 2)) (kk : q_W x (pc + 2) (a0 :: a1 :: a2 :: a3 :: a4 :: a5 :: a6 :: a7 :: a8 :: a9 :: a10 :: a11 :: a12 :: a13 :: a14 :: some (.inl v) :: tl) st Wd) : q_W x pc (a0 :: a1 :: a2 :: a3 :: a4 :: a5 :: a6 :: a7 :: a8 :: a9 :: a10 :: a11 :: a12 :: a13 :: a14 :: a15 :: tl) (.inl v :: st) Wd := q_istoreG (i := 15) ok (by show 15 < _; simp) hp hd kk
theorem q_lstore_15 {x : q_X} {cc : ByteArray} {own : String} {fr lo pc : Nat} {st : List q_V} {Wd : List q_E} {a0 a1 a2 a3 a4 a5 a6 a7 a8 a9 a10 a11 a12 a13 a14 a15 a16 : Option q_V} {tl : List (Option q_V)} {v : Int64} (ok : q_ok x cc own fr lo) (hp : q_nol a14 = true) (hd : decode cc pc = .ok (.lstore 15, 2)) (kk : q_W x (pc + 2) (a0 :: a1 :: a2 :: a3 :: a4 :: a5 :: a6 :: a7 :: a8 :: a9 :: a10 :: a11 :: a12 :: a13 :: a14 :: some (.inr (.inl v)) :: none :: tl) st Wd) : q_W x pc (a0 :: a1 :: a2 :: a3 :: a4 :: a5 :: a6 :: a7 :: a8 :: a9 :: a10 :: a11 :: a12 :: a13 :: a14 :: a15 :: a16 :: tl) (.inr (.inl v) :: st) Wd := q_lstoreG (i := 15) ok (by show 15 + 1 < _; simp) hp hd kk
theorem q_iinc_15 {x : q_X} {cc : ByteArray} {own : String} {fr lo pc : Nat} {st : List q_V} {Wd : List q_E} {a0 a1 a2 a3 a4 a5 a6 a7 a8 a9 a10 a11 a12 a13 a14 : Option q_V} {tl : List (Option q_V)} {n : Int} {v : Int32} (u : Int32) (ok : q_ok x cc own fr lo) (hp : q_nol a14 = true) (hu : Int32.ofInt n = u) (hd : decode cc pc = .ok (.iinc 15 n, 3)) (kk : q_W x (pc + 3) (a0 :: a1 :: a2 :: a3 :: a4 :: a5 :: a6 :: a7 :: a8 :: a9 :: a10 :: a11 :: a12 :: a13 :: a14 :: some (.inl (v + u)) :: tl) st Wd) : q_W x pc (a0 :: a1 :: a2 :: a3 :: a4 :: a5 :: a6 :: a7 :: a8 :: a9 :: a10 :: a11 :: a12 :: a13 :: a14 :: some (.inl v) :: tl) st Wd := q_iincG (i := 15) ok rfl hp hd (by rw [hu]; exact kk)
theorem q_istore_16 {x : q_X} {cc : ByteArray} {own : String} {fr lo pc : Nat} {st : List q_V} {Wd : List q_E} {a0 a1 a2 a3 a4 a5 a6 a7 a8 a9 a10 a11 a12 a13 a14 a15 a16 : Option q_V} {tl : List (Option q_V)} {v : Int32} (ok : q_ok x cc own fr lo) (hp : q_nol a15 = true) (hd : decode cc pc = .ok (.istore 16, 2)) (kk : q_W x (pc + 2) (a0 :: a1 :: a2 :: a3 :: a4 :: a5 :: a6 :: a7 :: a8 :: a9 :: a10 :: a11 :: a12 :: a13 :: a14 :: a15 :: some (.inl v) :: tl) st Wd) : q_W x pc (a0 :: a1 :: a2 :: a3 :: a4 :: a5 :: a6 :: a7 :: a8 :: a9 :: a10 :: a11 :: a12 :: a13 :: a14 :: a15 :: a16 :: tl) (.inl v :: st) Wd := q_istoreG (i := 16) ok (by show 16 < _; simp) hp hd kk
theorem q_lstore_16 {x : q_X} {cc : ByteArray} {own : String} {fr lo pc : Nat} {st : List q_V} {Wd : List q_E} {a0 a1 a2 a3 a4 a5 a6 a7 a8 a9 a10 a11 a12 a13 a14 a15 a16 a17 : Option q_V} {tl : List (Option q_V)} {v : Int64} (ok : q_ok x cc own fr lo) (hp : q_nol a15 = true) (hd : decode cc pc = .ok (.lstore 16, 2)) (kk : q_W x (pc + 2) (a0 :: a1 :: a2 :: a3 :: a4 :: a5 :: a6 :: a7 :: a8 :: a9 :: a10 :: a11 :: a12 :: a13 :: a14 :: a15 :: some (.inr (.inl v)) :: none :: tl) st Wd) : q_W x pc (a0 :: a1 :: a2 :: a3 :: a4 :: a5 :: a6 :: a7 :: a8 :: a9 :: a10 :: a11 :: a12 :: a13 :: a14 :: a15 :: a16 :: a17 :: tl) (.inr (.inl v) :: st) Wd := q_lstoreG (i := 16) ok (by show 16 + 1 < _; simp) hp hd kk
theorem q_iinc_16 {x : q_X} {cc : ByteArray} {own : String} {fr lo pc : Nat} {st : List q_V} {Wd : List q_E} {a0 a1 a2 a3 a4 a5 a6 a7 a8 a9 a10 a11 a12 a13 a14 a15 : Option q_V} {tl : List (Option q_V)} {n : Int} {v : Int32} (u : Int32) (ok : q_ok x cc own fr lo) (hp : q_nol a15 = true) (hu : Int32.ofInt n = u) (hd : decode cc pc = .ok (.iinc 16 n, 3)) (kk : q_W x (pc + 3) (a0 :: a1 :: a2 :: a3 :: a4 :: a5 :: a6 :: a7 :: a8 :: a9 :: a10 :: a11 :: a12 :: a13 :: a14 :: a15 :: some (.inl (v + u)) :: tl) st Wd) : q_W x pc (a0 :: a1 :: a2 :: a3 :: a4 :: a5 :: a6 :: a7 :: a8 :: a9 :: a10 :: a11 :: a12 :: a13 :: a14 :: a15 :: some (.inl v) :: tl) st Wd := q_iincG (i := 16) ok rfl hp hd (by rw [hu]; exact kk)
theorem q_istore_17 {x : q_X} {cc : ByteArray} {own : String} {fr lo pc : Nat} {st : List q_V} {Wd : List q_E} {a0 a1 a2 a3 a4 a5 a6 a7 a8 a9 a10 a11 a12 a13 a14 a15 a16 a17 : Option q_V} {tl : List (Option q_V)} {v : Int32} (ok : q_ok x cc own fr lo) (hp : q_nol a16 = true) (hd : decode cc pc = .ok (.istore 17, 2)) (kk : q_W x (pc + 2) (a0 :: a1 :: a2 :: a3 :: a4 :: a5 :: a6 :: a7 :: a8 :: a9 :: a10 :: a11 :: a12 :: a13 :: a14 :: a15 :: a16 :: some (.inl v) :: tl) st Wd) : q_W x pc (a0 :: a1 :: a2 :: a3 :: a4 :: a5 :: a6 :: a7 :: a8 :: a9 :: a10 :: a11 :: a12 :: a13 :: a14 :: a15 :: a16 :: a17 :: tl) (.inl v :: st) Wd := q_istoreG (i := 17) ok (by show 17 < _; simp) hp hd kk
theorem q_lstore_17 {x : q_X} {cc : ByteArray} {own : String} {fr lo pc : Nat} {st : List q_V} {Wd : List q_E} {a0 a1 a2 a3 a4 a5 a6 a7 a8 a9 a10 a11 a12 a13 a14 a15 a16 a17 a18 : Option q_V} {tl : List (Option q_V)} {v : Int64} (ok : q_ok x cc own fr lo) (hp : q_nol a16 = true) (hd : decode cc pc = .ok (.lstore 17, 2)) (kk : q_W x (pc + 2) (a0 :: a1 :: a2 :: a3 :: a4 :: a5 :: a6 :: a7 :: a8 :: a9 :: a10 :: a11 :: a12 :: a13 :: a14 :: a15 :: a16 :: some (.inr (.inl v)) :: none :: tl) st Wd) : q_W x pc (a0 :: a1 :: a2 :: a3 :: a4 :: a5 :: a6 :: a7 :: a8 :: a9 :: a10 :: a11 :: a12 :: a13 :: a14 :: a15 :: a16 :: a17 :: a18 :: tl) (.inr (.inl v) :: st) Wd := q_lstoreG (i := 17) ok (by show 17 + 1 < _; simp) hp hd kk
theorem q_iinc_17 {x : q_X} {cc : ByteArray} {own : String} {fr lo pc : Nat} {st : List q_V} {Wd : List q_E} {a0 a1 a2 a3 a4 a5 a6 a7 a8 a9 a10 a11 a12 a13 a14 a15 a16 : Option q_V} {tl : List (Option q_V)} {n : Int} {v : Int32} (u : Int32) (ok : q_ok x cc own fr lo) (hp : q_nol a16 = true) (hu : Int32.ofInt n = u) (hd : decode cc pc = .ok (.iinc 17 n, 3)) (kk : q_W x (pc + 3) (a0 :: a1 :: a2 :: a3 :: a4 :: a5 :: a6 :: a7 :: a8 :: a9 :: a10 :: a11 :: a12 :: a13 :: a14 :: a15 :: a16 :: some (.inl (v + u)) :: tl) st Wd) : q_W x pc (a0 :: a1 :: a2 :: a3 :: a4 :: a5 :: a6 :: a7 :: a8 :: a9 :: a10 :: a11 :: a12 :: a13 :: a14 :: a15 :: a16 :: some (.inl v) :: tl) st Wd := q_iincG (i := 17) ok rfl hp hd (by rw [hu]; exact kk)
theorem q_istore_18 {x : q_X} {cc : ByteArray} {own : String} {fr lo pc : Nat} {st : List q_V} {Wd : List q_E} {a0 a1 a2 a3 a4 a5 a6 a7 a8 a9 a10 a11 a12 a13 a14 a15 a16 a17 a18 : Option q_V} {tl : List (Option q_V)} {v : Int32} (ok : q_ok x cc own fr lo) (hp : q_nol a17 = true) (hd : decode cc pc = .ok (.istore 18, 2)) (kk : q_W x (pc + 2) (a0 :: a1 :: a2 :: a3 :: a4 :: a5 :: a6 :: a7 :: a8 :: a9 :: a10 :: a11 :: a12 :: a13 :: a14 :: a15 :: a16 :: a17 :: some (.inl v) :: tl) st Wd) : q_W x pc (a0 :: a1 :: a2 :: a3 :: a4 :: a5 :: a6 :: a7 :: a8 :: a9 :: a10 :: a11 :: a12 :: a13 :: a14 :: a15 :: a16 :: a17 :: a18 :: tl) (.inl v :: st) Wd := q_istoreG (i := 18) ok (by show 18 < _; simp) hp hd kk
theorem q_lstore_18 {x : q_X} {cc : ByteArray} {own : String} {fr lo pc : Nat} {st : List q_V} {Wd : List q_E} {a0 a1 a2 a3 a4 a5 a6 a7 a8 a9 a10 a11 a12 a13 a14 a15 a16 a17 a18 a19 : Option q_V} {tl : List (Option q_V)} {v : Int64} (ok : q_ok x cc own fr lo) (hp : q_nol a17 = true) (hd : decode cc pc = .ok (.lstore 18, 2)) (kk : q_W x (pc + 2) (a0 :: a1 :: a2 :: a3 :: a4 :: a5 :: a6 :: a7 :: a8 :: a9 :: a10 :: a11 :: a12 :: a13 :: a14 :: a15 :: a16 :: a17 :: some (.inr (.inl v)) :: none :: tl) st Wd) : q_W x pc (a0 :: a1 :: a2 :: a3 :: a4 :: a5 :: a6 :: a7 :: a8 :: a9 :: a10 :: a11 :: a12 :: a13 :: a14 :: a15 :: a16 :: a17 :: a18 :: a19 :: tl) (.inr (.inl v) :: st) Wd := q_lstoreG (i := 18) ok (by show 18 + 1 < _; simp) hp hd kk
theorem q_iinc_18 {x : q_X} {cc : ByteArray} {own : String} {fr lo pc : Nat} {st : List q_V} {Wd : List q_E} {a0 a1 a2 a3 a4 a5 a6 a7 a8 a9 a10 a11 a12 a13 a14 a15 a16 a17 : Option q_V} {tl : List (Option q_V)} {n : Int} {v : Int32} (u : Int32) (ok : q_ok x cc own fr lo) (hp : q_nol a17 = true) (hu : Int32.ofInt n = u) (hd : decode cc pc = .ok (.iinc 18 n, 3)) (kk : q_W x (pc + 3) (a0 :: a1 :: a2 :: a3 :: a4 :: a5 :: a6 :: a7 :: a8 :: a9 :: a10 :: a11 :: a12 :: a13 :: a14 :: a15 :: a16 :: a17 :: some (.inl (v + u)) :: tl) st Wd) : q_W x pc (a0 :: a1 :: a2 :: a3 :: a4 :: a5 :: a6 :: a7 :: a8 :: a9 :: a10 :: a11 :: a12 :: a13 :: a14 :: a15 :: a16 :: a17 :: some (.inl v) :: tl) st Wd := q_iincG (i := 18) ok rfl hp hd (by rw [hu]; exact kk)
theorem q_istore_19 {x : q_X} {cc : ByteArray} {own : String} {fr lo pc : Nat} {st : List q_V} {Wd : List q_E} {a0 a1 a2 a3 a4 a5 a6 a7 a8 a9 a10 a11 a12 a13 a14 a15 a16 a17 a18 a19 : Option q_V} {tl : List (Option q_V)} {v : Int32} (ok : q_ok x cc own fr lo) (hp : q_nol a18 = true) (hd : decode cc pc = .ok (.istore 19, 2)) (kk : q_W x (pc + 2) (a0 :: a1 :: a2 :: a3 :: a4 :: a5 :: a6 :: a7 :: a8 :: a9 :: a10 :: a11 :: a12 :: a13 :: a14 :: a15 :: a16 :: a17 :: a18 :: some (.inl v) :: tl) st Wd) : q_W x pc (a0 :: a1 :: a2 :: a3 :: a4 :: a5 :: a6 :: a7 :: a8 :: a9 :: a10 :: a11 :: a12 :: a13 :: a14 :: a15 :: a16 :: a17 :: a18 :: a19 :: tl) (.inl v :: st) Wd := q_istoreG (i := 19) ok (by show 19 < _; simp) hp hd kk
theorem q_lstore_19 {x : q_X} {cc : ByteArray} {own : String} {fr lo pc : Nat} {st : List q_V} {Wd : List q_E} {a0 a1 a2 a3 a4 a5 a6 a7 a8 a9 a10 a11 a12 a13 a14 a15 a16 a17 a18 a19 a20 : Option q_V} {tl : List (Option q_V)} {v : Int64} (ok : q_ok x cc own fr lo) (hp : q_nol a18 = true) (hd : decode cc pc = .ok (.lstore 19, 2)) (kk : q_W x (pc + 2) (a0 :: a1 :: a2 :: a3 :: a4 :: a5 :: a6 :: a7 :: a8 :: a9 :: a10 :: a11 :: a12 :: a13 :: a14 :: a15 :: a16 :: a17 :: a18 :: some (.inr (.inl v)) :: none :: tl) st Wd) : q_W x pc (a0 :: a1 :: a2 :: a3 :: a4 :: a5 :: a6 :: a7 :: a8 :: a9 :: a10 :: a11 :: a12 :: a13 :: a14 :: a15 :: a16 :: a17 :: a18 :: a19 :: a20 :: tl) (.inr (.inl v) :: st) Wd := q_lstoreG (i := 19) ok (by show 19 + 1 < _; simp) hp hd kk
theorem q_iinc_19 {x : q_X} {cc : ByteArray} {own : String} {fr lo pc : Nat} {st : List q_V} {Wd : List q_E} {a0 a1 a2 a3 a4 a5 a6 a7 a8 a9 a10 a11 a12 a13 a14 a15 a16 a17 a18 : Option q_V} {tl : List (Option q_V)} {n : Int} {v : Int32} (u : Int32) (ok : q_ok x cc own fr lo) (hp : q_nol a18 = true) (hu : Int32.ofInt n = u) (hd : decode cc pc = .ok (.iinc 19 n, 3)) (kk : q_W x (pc + 3) (a0 :: a1 :: a2 :: a3 :: a4 :: a5 :: a6 :: a7 :: a8 :: a9 :: a10 :: a11 :: a12 :: a13 :: a14 :: a15 :: a16 :: a17 :: a18 :: some (.inl (v + u)) :: tl) st Wd) : q_W x pc (a0 :: a1 :: a2 :: a3 :: a4 :: a5 :: a6 :: a7 :: a8 :: a9 :: a10 :: a11 :: a12 :: a13 :: a14 :: a15 :: a16 :: a17 :: a18 :: some (.inl v) :: tl) st Wd := q_iincG (i := 19) ok rfl hp hd (by rw [hu]; exact kk)
theorem q_istore_20 {x : q_X} {cc : ByteArray} {own : String} {fr lo pc : Nat} {st : List q_V} {Wd : List q_E} {a0 a1 a2 a3 a4 a5 a6 a7 a8 a9 a10 a11 a12 a13 a14 a15 a16 a17 a18 a19 a20 : Option q_V} {tl : List (Option q_V)} {v : Int32} (ok : q_ok x cc own fr lo) (hp : q_nol a19 = true) (hd : decode cc pc = .ok (.istore 20, 2)) (kk : q_W x (pc + 2) (a0 :: a1 :: a2 :: a3 :: a4 :: a5 :: a6 :: a7 :: a8 :: a9 :: a10 :: a11 :: a12 :: a13 :: a14 :: a15 :: a16 :: a17 :: a18 :: a19 :: some (.inl v) :: tl) st Wd) : q_W x pc (a0 :: a1 :: a2 :: a3 :: a4 :: a5 :: a6 :: a7 :: a8 :: a9 :: a10 :: a11 :: a12 :: a13 :: a14 :: a15 :: a16 :: a17 :: a18 :: a19 :: a20 :: tl) (.inl v :: st) Wd := q_istoreG (i := 20) ok (by show 20 < _; simp) hp hd kk
theorem q_lstore_20 {x : q_X} {cc : ByteArray} {own : String} {fr lo pc : Nat} {st : List q_V} {Wd : List q_E} {a0 a1 a2 a3 a4 a5 a6 a7 a8 a9 a10 a11 a12 a13 a14 a15 a16 a17 a18 a19 a20 a21 : Option q_V} {tl : List (Option q_V)} {v : Int64} (ok : q_ok x cc own fr lo) (hp : q_nol a19 = true) (hd : decode cc pc = .ok (.lstore 20, 2)) (kk : q_W x (pc + 2) (a0 :: a1 :: a2 :: a3 :: a4 :: a5 :: a6 :: a7 :: a8 :: a9 :: a10 :: a11 :: a12 :: a13 :: a14 :: a15 :: a16 :: a17 :: a18 :: a19 :: some (.inr (.inl v)) :: none :: tl) st Wd) : q_W x pc (a0 :: a1 :: a2 :: a3 :: a4 :: a5 :: a6 :: a7 :: a8 :: a9 :: a10 :: a11 :: a12 :: a13 :: a14 :: a15 :: a16 :: a17 :: a18 :: a19 :: a20 :: a21 :: tl) (.inr (.inl v) :: st) Wd := q_lstoreG (i := 20) ok (by show 20 + 1 < _; simp) hp hd kk
theorem q_iinc_20 {x : q_X} {cc : ByteArray} {own : String} {fr lo pc : Nat} {st : List q_V} {Wd : List q_E} {a0 a1 a2 a3 a4 a5 a6 a7 a8 a9 a10 a11 a12 a13 a14 a15 a16 a17 a18 a19 : Option q_V} {tl : List (Option q_V)} {n : Int} {v : Int32} (u : Int32) (ok : q_ok x cc own fr lo) (hp : q_nol a19 = true) (hu : Int32.ofInt n = u) (hd : decode cc pc = .ok (.iinc 20 n, 3)) (kk : q_W x (pc + 3) (a0 :: a1 :: a2 :: a3 :: a4 :: a5 :: a6 :: a7 :: a8 :: a9 :: a10 :: a11 :: a12 :: a13 :: a14 :: a15 :: a16 :: a17 :: a18 :: a19 :: some (.inl (v + u)) :: tl) st Wd) : q_W x pc (a0 :: a1 :: a2 :: a3 :: a4 :: a5 :: a6 :: a7 :: a8 :: a9 :: a10 :: a11 :: a12 :: a13 :: a14 :: a15 :: a16 :: a17 :: a18 :: a19 :: some (.inl v) :: tl) st Wd := q_iincG (i := 20) ok rfl hp hd (by rw [hu]; exact kk)
def q_le : List (Option q_V) → List (Option q_V) → Prop
  | [], [] => True
  | _ :: l, none :: l' => q_le l l'
  | some v :: l, some v' :: l' => v = v' ∧ q_le l l'
  | _, _ => False
theorem q_le_len : ∀ (l l' : List (Option q_V)), q_le l l' → l.length = l'.length
  | [], [], _ => rfl
  | [], _ :: _, h => by cases h
  | _ :: _, [], h => by rename_i a b; cases a <;> cases h
  | none :: l, none :: l', h => by simpa using q_le_len l l' h
  | some _ :: l, none :: l', h => by simpa using q_le_len l l' h
  | none :: l, some _ :: l', h => by cases h
  | some _ :: l, some _ :: l', h => by simpa using q_le_len l l' h.2
theorem q_le_mem (ad : Nat → Nat) : ∀ (l l' : List (Option q_V)) (i : Nat), q_le l l' → ∀ q ∈ q_lvl ad i l', q ∈ q_lvl ad i l
  | [], [], _, _, q, h => h
  | [], _ :: _, _, h, _, _ => by cases h
  | _ :: _, [], _, _, _, hq => by cases hq
  | none :: l, none :: l', i, h, q, hq => q_le_mem ad l l' (i + 1) h q hq
  | some _ :: l, none :: l', i, h, q, hq => List.mem_cons_of_mem _ (q_le_mem ad l l' (i + 1) h q hq)
  | none :: l, some _ :: l', _, h, _, _ => by cases h
  | some v :: l, some v' :: l', i, h, q, hq => by
    obtain ⟨rfl, h⟩ := h
    rcases List.mem_cons.mp hq with e | e
    · exact List.mem_cons.mpr (Or.inl e)
    · exact List.mem_cons.mpr (Or.inr (q_le_mem ad l l' (i + 1) h q e))
theorem q_fgt {x : q_X} {pc : Nat} {lv : List (Option q_V)} {st : List q_V} {Wd : List q_E} (lv2 : List (Option q_V)) (h : q_le lv lv2) (kk : q_W x pc lv2 st Wd) : q_W x pc lv st Wd := by
  obtain ⟨p, l, e, R, s, m, args, below, meth, c, A, H0, cells, slots, Q, D, cA, ad⟩ := x
  intro H locs ls hl hn hP hD hS
  have hz := q_le_len _ _ h
  exact kk H locs ls (by rw [← hz]; exact q_has_sub hl (q_le_mem ad _ _ 0 h)) (by rw [← hz]; exact hn) hP hD hS
theorem q_getG {x : q_X} {cc : ByteArray} {own : String} {fr lo pc : Nat} {lv : List (Option q_V)} {st : List q_V} {Wd : List q_E} {ix k ci f N : Nat} {C : String} {T : u_T} {fs : List q_V} {v : q_V} (ok : q_ok x cc own fr lo) (hcl : vwCl[ci]? = some (C, T, N)) (hin : ∀ w ∈ u_ws C T N, w ∈ wsL_law) (hf : f < N) (hl1 : Cond.fieldLink own ix C (T f).2.1 (T f).2.2.1 ∈ wsL_law) (hT : (T f).1 = C) (he : Wd[k]? = some (.inr (ci, fs))) (hv : fs[f]? = some v) (hd : decode cc pc = .ok (.getfield ix, 3)) (kk : q_W x (pc + 3) lv (v :: st) Wd) : q_W x pc lv (.inr (.inr (some k)) :: st) Wd := by
  obtain ⟨p, l, e, R, s, m, args, below, meth, c, A, H0, cells, slots, Q, D, cA, ad⟩ := x
  obtain ⟨hx, hb, hown, hts, hK, hA, hfr, hlo, hce, hsl⟩ := ok
  intro H locs ls hl hn hP hD hS
  exact va_get (fs := fs.map (q_cv ad)) (v := q_cv ad v) hx hb hts hin hown hK hP k (q_cw_get0 he) hcl f hf (hts _ hl1) (fun z h9 => by rw [hT] at h9; exact h9) (by rw [List.getElem?_map, hv]; rfl) hd (kk H locs ls hl hn hP hD hS)
theorem q_putiG {x : q_X} {cc : ByteArray} {own : String} {fr lo pc : Nat} {lv : List (Option q_V)} {st : List q_V} {Wd : List q_E} {ix k ci f N : Nat} {C : String} {T : u_T} {fs : List q_V} {v : Int32} (ok : q_ok x cc own fr lo) (hcl : vwCl[ci]? = some (C, T, N)) (hin : ∀ w ∈ u_ws C T N, w ∈ wsL_law) (ty0 : Nat → FieldType) (hty : ∀ k, k < N → parseFieldDescriptor (T k).2.2.1 = some (ty0 k)) (hnm : ∀ a, a < N → ∀ b, b < N → a ≠ b → (T a).2.1 ≠ (T b).2.1) (hf : f < N) (hl1 : Cond.fieldLink own ix C (T f).2.1 (T f).2.2.1 ∈ wsL_law) (hT : (T f).1 = C) (hfin : (T f).2.2.2 = false) (hdt : parseFieldDescriptor (T f).2.2.1 = some .int) (he : Wd[k]? = some (.inr (ci, fs))) (hlen : f < fs.length) (hd : decode cc pc = .ok (.putfield ix, 3)) (kk : q_W x (pc + 3) lv st (Wd.set k (.inr (ci, fs.set f (.inl v))))) : q_W x pc lv (.inl v :: .inr (.inr (some k)) :: st) Wd := by
  obtain ⟨p, l, e, R, s, m, args, below, meth, c, A, H0, cells, slots, Q, D, cA, ad⟩ := x
  obtain ⟨hx, hb, hown, hts, hK, hA, hfr, hlo, hce, hsl⟩ := ok
  intro H locs ls hl hn hP hD hS
  refine va_put (fs := fs.map (q_cv ad)) hx hb hts hin ty0 hty hnm hown hK hP hD hS k (q_cw_get0 he) hcl f hf (hts _ hl1) (fun z h9 => by rw [hT] at h9; exact h9) hfin hdt rfl rfl (by rw [List.length_map]; exact hlen) hd (fun H1 locs1 hP1 hD1 hS1 => ?_)
  have ee : (ad k, (Sum.inr (ci, (fs.map (q_cv ad)).set f (q_cv ad (.inl v))) : va_E)) = (ad k, q_ce cA ad (.inr (ci, fs.set f (.inl v)))) := by simp [q_ce, List.map_set]
  have hP2 : va_P D vwCl (List.set (q_cw cA ad 0 Wd) k (ad k, (Sum.inr (ci, (fs.map (q_cv ad)).set f (q_cv ad (.inl v))) : va_E))) H1 := hP1
  have hD2 : va_D A (List.set (q_cw cA ad 0 Wd) k (ad k, (Sum.inr (ci, (fs.map (q_cv ad)).set f (q_cv ad (.inl v))) : va_E))) := hD1
  rw [ee, q_cw_set0] at hP2 hD2
  exact kk H1 locs1 ls hl hn hP2 hD2 hS1
theorem q_putlG {x : q_X} {cc : ByteArray} {own : String} {fr lo pc : Nat} {lv : List (Option q_V)} {st : List q_V} {Wd : List q_E} {ix k ci f N : Nat} {C : String} {T : u_T} {fs : List q_V} {v : Int64} (ok : q_ok x cc own fr lo) (hcl : vwCl[ci]? = some (C, T, N)) (hin : ∀ w ∈ u_ws C T N, w ∈ wsL_law) (ty0 : Nat → FieldType) (hty : ∀ k, k < N → parseFieldDescriptor (T k).2.2.1 = some (ty0 k)) (hnm : ∀ a, a < N → ∀ b, b < N → a ≠ b → (T a).2.1 ≠ (T b).2.1) (hf : f < N) (hl1 : Cond.fieldLink own ix C (T f).2.1 (T f).2.2.1 ∈ wsL_law) (hT : (T f).1 = C) (hfin : (T f).2.2.2 = false) (hdt : parseFieldDescriptor (T f).2.2.1 = some .long) (he : Wd[k]? = some (.inr (ci, fs))) (hlen : f < fs.length) (hd : decode cc pc = .ok (.putfield ix, 3)) (kk : q_W x (pc + 3) lv st (Wd.set k (.inr (ci, fs.set f (.inr (.inl v)))))) : q_W x pc lv (.inr (.inl v) :: .inr (.inr (some k)) :: st) Wd := by
  obtain ⟨p, l, e, R, s, m, args, below, meth, c, A, H0, cells, slots, Q, D, cA, ad⟩ := x
  obtain ⟨hx, hb, hown, hts, hK, hA, hfr, hlo, hce, hsl⟩ := ok
  intro H locs ls hl hn hP hD hS
  refine va_put (fs := fs.map (q_cv ad)) hx hb hts hin ty0 hty hnm hown hK hP hD hS k (q_cw_get0 he) hcl f hf (hts _ hl1) (fun z h9 => by rw [hT] at h9; exact h9) hfin hdt rfl rfl (by rw [List.length_map]; exact hlen) hd (fun H1 locs1 hP1 hD1 hS1 => ?_)
  have ee : (ad k, (Sum.inr (ci, (fs.map (q_cv ad)).set f (q_cv ad (.inr (.inl v)))) : va_E)) = (ad k, q_ce cA ad (.inr (ci, fs.set f (.inr (.inl v))))) := by simp [q_ce, List.map_set]
  have hP2 : va_P D vwCl (List.set (q_cw cA ad 0 Wd) k (ad k, (Sum.inr (ci, (fs.map (q_cv ad)).set f (q_cv ad (.inr (.inl v)))) : va_E))) H1 := hP1
  have hD2 : va_D A (List.set (q_cw cA ad 0 Wd) k (ad k, (Sum.inr (ci, (fs.map (q_cv ad)).set f (q_cv ad (.inr (.inl v)))) : va_E))) := hD1
  rw [ee, q_cw_set0] at hP2 hD2
  exact kk H1 locs1 ls hl hn hP2 hD2 hS1
theorem q_ty0 (cA : Nat → ClassId) : (q_tys cA)[0]? = some (cA 0, .int) := rfl
theorem q_ty1 (cA : Nat → ClassId) : (q_tys cA)[1]? = some (cA 1, .long) := rfl
theorem q_ty2 (cA : Nat → ClassId) : (q_tys cA)[2]? = some (cA 2, .boolean) := rfl
theorem q_iald {x : q_X} {cc : ByteArray} {own : String} {fr lo pc : Nat} {lv : List (Option q_V)} {st : List q_V} {Wd : List q_E} {k n : Nat} {f : Nat → Int32} {i : Int32} (ok : q_ok x cc own fr lo) (he : Wd[k]? = some (.inl (0, n, .inl f))) (hin : vp_in i n) (hd : decode cc pc = .ok (.iaload, 1)) (kk : q_W x (pc + 1) lv (.inl (f i.toNatClampNeg) :: st) Wd) : q_W x pc lv (.inl i :: .inr (.inr (some k)) :: st) Wd := by
  obtain ⟨p, l, e, R, s, m, args, below, meth, c, A, H0, cells, slots, Q, D, cA, ad⟩ := x
  obtain ⟨hx, hb, hown, hts, hK, hA, hfr, hlo, hce, hsl⟩ := ok
  intro H locs ls hl hn hP hD hS
  exact va_iald hx hb hK hP k 0 (q_cw_get0 he) (q_ty0 cA) hin hd (kk H locs ls hl hn hP hD hS)
theorem q_zald {x : q_X} {cc : ByteArray} {own : String} {fr lo pc : Nat} {lv : List (Option q_V)} {st : List q_V} {Wd : List q_E} {k n : Nat} {f : Nat → Int32} {i : Int32} (ok : q_ok x cc own fr lo) (he : Wd[k]? = some (.inl (2, n, .inl f))) (hin : vp_in i n) (hd : decode cc pc = .ok (.baload, 1)) (kk : q_W x (pc + 1) lv (.inl (f i.toNatClampNeg) :: st) Wd) : q_W x pc lv (.inl i :: .inr (.inr (some k)) :: st) Wd := by
  obtain ⟨p, l, e, R, s, m, args, below, meth, c, A, H0, cells, slots, Q, D, cA, ad⟩ := x
  obtain ⟨hx, hb, hown, hts, hK, hA, hfr, hlo, hce, hsl⟩ := ok
  intro H locs ls hl hn hP hD hS
  exact va_zald hx hb hK hP k 2 (q_cw_get0 he) (q_ty2 cA) hin hd (kk H locs ls hl hn hP hD hS)
theorem q_lald {x : q_X} {cc : ByteArray} {own : String} {fr lo pc : Nat} {lv : List (Option q_V)} {st : List q_V} {Wd : List q_E} {k n : Nat} {f : Nat → Int64} {i : Int32} (ok : q_ok x cc own fr lo) (he : Wd[k]? = some (.inl (1, n, .inr f))) (hin : vp_in i n) (hd : decode cc pc = .ok (.laload, 1)) (kk : q_W x (pc + 1) lv (.inr (.inl (f i.toNatClampNeg)) :: st) Wd) : q_W x pc lv (.inl i :: .inr (.inr (some k)) :: st) Wd := by
  obtain ⟨p, l, e, R, s, m, args, below, meth, c, A, H0, cells, slots, Q, D, cA, ad⟩ := x
  obtain ⟨hx, hb, hown, hts, hK, hA, hfr, hlo, hce, hsl⟩ := ok
  intro H locs ls hl hn hP hD hS
  exact va_lald hx hb hK hP k 1 (q_cw_get0 he) (q_ty1 cA) hin hd (kk H locs ls hl hn hP hD hS)
theorem q_iast {x : q_X} {cc : ByteArray} {own : String} {fr lo pc : Nat} {lv : List (Option q_V)} {st : List q_V} {Wd : List q_E} {k n : Nat} {f : Nat → Int32} {i : Int32} {v : Int32} (ok : q_ok x cc own fr lo) (he : Wd[k]? = some (.inl (0, n, .inl f))) (hin : vp_in i n) (hd : decode cc pc = .ok (.iastore, 1)) (kk : q_W x (pc + 1) lv st (Wd.set k (.inl (0, n, .inl (upd f i.toNatClampNeg v))))) : q_W x pc lv (.inl v :: .inl i :: .inr (.inr (some k)) :: st) Wd := by
  obtain ⟨p, l, e, R, s, m, args, below, meth, c, A, H0, cells, slots, Q, D, cA, ad⟩ := x
  obtain ⟨hx, hb, hown, hts, hK, hA, hfr, hlo, hce, hsl⟩ := ok
  intro H locs ls hl hn hP hD hS
  refine va_iast hx hb hK hP hD hS k 0 (q_cw_get0 he) (q_ty0 cA) hin hd (fun H1 locs1 hP1 hD1 hS1 => ?_)
  have hP2 : va_P D vwCl (List.set (q_cw cA ad 0 Wd) k (ad k, q_ce cA ad (.inl (0, n, .inl (upd f i.toNatClampNeg v))))) H1 := hP1
  have hD2 : va_D A (List.set (q_cw cA ad 0 Wd) k (ad k, q_ce cA ad (.inl (0, n, .inl (upd f i.toNatClampNeg v))))) := hD1
  rw [q_cw_set0] at hP2 hD2
  exact kk H1 locs1 ls hl hn hP2 hD2 hS1
theorem q_zast {x : q_X} {cc : ByteArray} {own : String} {fr lo pc : Nat} {lv : List (Option q_V)} {st : List q_V} {Wd : List q_E} {k n : Nat} {f : Nat → Int32} {i : Int32} {v : Int32} (ok : q_ok x cc own fr lo) (he : Wd[k]? = some (.inl (2, n, .inl f))) (hin : vp_in i n) (hd : decode cc pc = .ok (.bastore, 1)) (kk : q_W x (pc + 1) lv st (Wd.set k (.inl (2, n, .inl (upd f i.toNatClampNeg (vp_nar .boolean v)))))) : q_W x pc lv (.inl v :: .inl i :: .inr (.inr (some k)) :: st) Wd := by
  obtain ⟨p, l, e, R, s, m, args, below, meth, c, A, H0, cells, slots, Q, D, cA, ad⟩ := x
  obtain ⟨hx, hb, hown, hts, hK, hA, hfr, hlo, hce, hsl⟩ := ok
  intro H locs ls hl hn hP hD hS
  refine va_zast hx hb hK hP hD hS k 2 (q_cw_get0 he) (q_ty2 cA) hin hd (fun H1 locs1 hP1 hD1 hS1 => ?_)
  have hP2 : va_P D vwCl (List.set (q_cw cA ad 0 Wd) k (ad k, q_ce cA ad (.inl (2, n, .inl (upd f i.toNatClampNeg (vp_nar .boolean v)))))) H1 := hP1
  have hD2 : va_D A (List.set (q_cw cA ad 0 Wd) k (ad k, q_ce cA ad (.inl (2, n, .inl (upd f i.toNatClampNeg (vp_nar .boolean v)))))) := hD1
  rw [q_cw_set0] at hP2 hD2
  exact kk H1 locs1 ls hl hn hP2 hD2 hS1
theorem q_last {x : q_X} {cc : ByteArray} {own : String} {fr lo pc : Nat} {lv : List (Option q_V)} {st : List q_V} {Wd : List q_E} {k n : Nat} {f : Nat → Int64} {i : Int32} {v : Int64} (ok : q_ok x cc own fr lo) (he : Wd[k]? = some (.inl (1, n, .inr f))) (hin : vp_in i n) (hd : decode cc pc = .ok (.lastore, 1)) (kk : q_W x (pc + 1) lv st (Wd.set k (.inl (1, n, .inr (vp_updL f i.toNatClampNeg v))))) : q_W x pc lv (.inr (.inl v) :: .inl i :: .inr (.inr (some k)) :: st) Wd := by
  obtain ⟨p, l, e, R, s, m, args, below, meth, c, A, H0, cells, slots, Q, D, cA, ad⟩ := x
  obtain ⟨hx, hb, hown, hts, hK, hA, hfr, hlo, hce, hsl⟩ := ok
  intro H locs ls hl hn hP hD hS
  refine va_last hx hb hK hP hD hS k 1 (q_cw_get0 he) (q_ty1 cA) hin hd (fun H1 locs1 hP1 hD1 hS1 => ?_)
  have hP2 : va_P D vwCl (List.set (q_cw cA ad 0 Wd) k (ad k, q_ce cA ad (.inl (1, n, .inr (vp_updL f i.toNatClampNeg v))))) H1 := hP1
  have hD2 : va_D A (List.set (q_cw cA ad 0 Wd) k (ad k, q_ce cA ad (.inl (1, n, .inr (vp_updL f i.toNatClampNeg v))))) := hD1
  rw [q_cw_set0] at hP2 hD2
  exact kk H1 locs1 ls hl hn hP2 hD2 hS1
theorem q_alen {x : q_X} {cc : ByteArray} {own : String} {fr lo pc : Nat} {lv : List (Option q_V)} {st : List q_V} {Wd : List q_E} {k t n : Nat} {g : (Nat → Int32) ⊕ (Nat → Int64)} (ok : q_ok x cc own fr lo) (he : Wd[k]? = some (.inl (t, n, g))) (ht : t < 3) (hd : decode cc pc = .ok (.arraylength, 1)) (kk : q_W x (pc + 1) lv (.inl (nI n) :: st) Wd) : q_W x pc lv (.inr (.inr (some k)) :: st) Wd := by
  obtain ⟨p, l, e, R, s, m, args, below, meth, c, A, H0, cells, slots, Q, D, cA, ad⟩ := x
  obtain ⟨hx, hb, hown, hts, hK, hA, hfr, hlo, hce, hsl⟩ := ok
  intro H locs ls hl hn hP hD hS
  have h1 := q_cw_get0 (cA := cA) (ad := ad) he
  rcases g with g | g
  · rcases (show t = 0 ∨ t = 1 ∨ t = 2 by omega) with rfl | rfl | rfl
    · exact va_alen hx hb hK hP k 0 h1 (q_ty0 cA) rfl hd (kk H locs ls hl hn hP hD hS)
    · exact va_alen hx hb hK hP k 1 h1 (q_ty1 cA) rfl hd (kk H locs ls hl hn hP hD hS)
    · exact va_alen hx hb hK hP k 2 h1 (q_ty2 cA) rfl hd (kk H locs ls hl hn hP hD hS)
  · rcases (show t = 0 ∨ t = 1 ∨ t = 2 by omega) with rfl | rfl | rfl
    · exact va_alen hx hb hK hP k 0 h1 (q_ty0 cA) rfl hd (kk H locs ls hl hn hP hD hS)
    · exact va_alen hx hb hK hP k 1 h1 (q_ty1 cA) rfl hd (kk H locs ls hl hn hP hD hS)
    · exact va_alen hx hb hK hP k 2 h1 (q_ty2 cA) rfl hd (kk H locs ls hl hn hP hD hS)
end
section
-- CONTRACTS over the abstract layer: what a method owes, its ends, its calls
def q_Q (D : va_G) (cA : Nat → ClassId) (ad : Nat → Nat) (K : Option q_V → List q_E → Prop) (A : Nat → Prop) : Array Value → State → Outcome → State → Prop := fun _ st oc t => (∃ (r : Option q_V) (Wd : List q_E), oc = .returned (r.map (q_cv ad)) ∧ K r Wd ∧ va_P D vwCl (q_cw cA ad 0 Wd) t.heap ∧ va_K D vwCl (q_tys cA) t ∧ va_D A (q_cw cA ad 0 Wd)) ∧ va_F A st t
def q_B (D : va_G) (cA : Nat → ClassId) (ad : Nat → Nat) (sz : Nat) (Wd : List q_E) : State → Prop := fun U => U.heap.size = sz ∧ va_P D vwCl (q_cw cA ad 0 Wd) U.heap ∧ va_K D vwCl (q_tys cA) U ∧ va_D (fun _ => True) (q_cw cA ad 0 Wd)
def q_ws (y : MethodName) (b : ByteArray) (n : Nat) (ret : Option FieldType) : List Cond := .code y b n ret :: wsL_law
def q_rm (fr lo : Nat) : Room := { frames := fr, cells := 0, slots := 0, locals := lo }
def q_lv0 : List q_V → List (Option q_V)
  | [] => []
  | .inr (.inl v) :: l => some (.inr (.inl v)) :: none :: q_lv0 l
  | .inl v :: l => some (.inl v) :: q_lv0 l
  | .inr (.inr v) :: l => some (.inr (.inr v)) :: q_lv0 l
def q_ent (as : List q_V) (n : Nat) : List (Option q_V) := q_lv0 as ++ List.replicate (n - (q_lv0 as).length) none
def q_Ct (y : MethodName) (b : ByteArray) (n : Nat) (ret : Option FieldType) (fr lo : Nat) (spec : List q_V → List q_E → (Option q_V → List q_E → Prop) → Prop) : Prop :=
  ∀ (l : Launch) (D : va_G) (cA : Nat → ClassId) (ad : Nat → Nat) (sz : Nat) (as : List q_V) (Wd : List q_E) (K : Option q_V → List q_E → Prop), (q_lv0 as).length ≤ n → spec as Wd K → Met l y (q_ws y b n ret) (q_rm fr lo) (va_Pc (as.map (q_cv ad)) (q_B D cA ad sz Wd)) (q_Q D cA ad K (va_A (q_cw cA ad 0 Wd) sz)) 0 0 (va_A (q_cw cA ad 0 Wd) sz)
def q_fin (x : q_X) (ret : Option FieldType) (K : Option q_V → List q_E → Prop) : Prop := match x with
  | (p, l, e, R, s, m, args, below, meth, c, A, H0, cells, slots, Q, D, cA, ad) => meth.sig.returnType = ret ∧ meth.locks = false ∧ cells = 0 ∧ slots = 0 ∧ H0 = s.heap ∧ Q = MQ below (q_Q D cA ad K A) args s 0 0 A
theorem q_lvl_none (ad : Nat → Nat) : ∀ (k i : Nat), q_lvl ad i (List.replicate k none) = []
  | 0, i => rfl
  | k + 1, i => by rw [List.replicate_succ, q_lvl]; exact q_lvl_none ad k (i + 1)
theorem q_lvl_app (ad : Nat → Nat) : ∀ (l l2 : List (Option q_V)) (i : Nat), q_lvl ad i (l ++ l2) = q_lvl ad i l ++ q_lvl ad (i + l.length) l2
  | [], l2, i => by simp [q_lvl]
  | none :: l, l2, i => by
    simp only [List.cons_append, q_lvl, List.length_cons]
    rw [q_lvl_app ad l l2 (i + 1), show i + 1 + l.length = i + (l.length + 1) by omega]
  | some v :: l, l2, i => by
    simp only [List.cons_append, q_lvl, List.length_cons]
    rw [q_lvl_app ad l l2 (i + 1), show i + 1 + l.length = i + (l.length + 1) by omega]
theorem q_lvl_args (ad : Nat → Nat) : ∀ (as : List q_V) (i : Nat), q_lvl ad i (q_lv0 as) = lv_args i (as.map (q_cv ad))
  | [], i => rfl
  | .inr (.inl v) :: l, i => congrArg (fun z => (i, Value.long v) :: z) (q_lvl_args ad l (i + 2))
  | .inl v :: l, i => congrArg (fun z => (i, Value.int v) :: z) (q_lvl_args ad l (i + 1))
  | .inr (.inr none) :: l, i => congrArg (fun z => (i, Value.null) :: z) (q_lvl_args ad l (i + 1))
  | .inr (.inr (some k)) :: l, i => congrArg (fun z => (i, Value.ref (ad k)) :: z) (q_lvl_args ad l (i + 1))
theorem q_sl_len (ad : Nat → Nat) : ∀ (as : List q_V), (lg_sl (as.map (q_cv ad))).length = (q_lv0 as).length
  | [] => rfl
  | .inr (.inl v) :: l => by
    have h := q_sl_len ad l
    simp only [lg_sl, List.map_cons, List.flatMap_cons, q_cv, Value.category, if_true, List.length_append, List.length_cons, List.length_nil, q_lv0] at h ⊢
    omega
  | .inl v :: l => by
    have h := q_sl_len ad l
    simp [lg_sl, q_cv, Value.category, q_lv0] at h ⊢
    omega
  | .inr (.inr none) :: l => by
    have h := q_sl_len ad l
    simp [lg_sl, q_cv, Value.category, q_lv0] at h ⊢
    omega
  | .inr (.inr (some k)) :: l => by
    have h := q_sl_len ad l
    simp [lg_sl, q_cv, Value.category, q_lv0] at h ⊢
    omega
theorem q_met {y : MethodName} {b : ByteArray} {n : Nat} {ret : Option FieldType} {fr lo : Nat} {spec : List q_V → List q_E → (Option q_V → List q_E → Prop) → Prop} (hy : plainName y.cls = true)
    (body : ∀ (x : q_X) (as : List q_V) (Wd : List q_E) (K : Option q_V → List q_E → Prop), spec as Wd K → q_ok x b y.cls fr lo → q_fin x ret K → q_W x 0 (q_ent as n) [] Wd) : q_Ct y b n ret fr lo spec := by
  intro l D cA ad sz as Wd K hle hs
  refine Met.ofW (cc := b) (maxL := n) (ret := ret) hy rfl ?_
  intro p e s m args below meth c s₁ B hml hv
  obtain ⟨rfl, hsz, hP, hK, hD0⟩ := hv
  have hx := B.exec
  have hb := B.bytes
  have hr := B.returns
  have hts := atoms_spec (ws := q_ws y b n ret) B.pre
  have hown : s.vm.findClass y.cls = some m.cls := findClass_of_methodNamed B.named
  have hlocks := B.notSynchronized
  subst hsz
  have hD := hD0.self (sz := s.heap.size)
  rw [lg_entry_eq]
  have hl := lv_entry (as.map (q_cv ad)) (n := n) (by rw [q_sl_len]; exact hle)
  have hlen : (q_ent as n).length = n := by unfold q_ent; rw [List.length_append, List.length_replicate]; omega
  refine body (p, l, e, (headSpec (q_ws y b n ret) (q_rm fr lo)).room, s, m, (as.map (q_cv ad)).toArray, below, meth, c, va_A (q_cw cA ad 0 Wd) s.heap.size, s.heap, 0, 0, MQ below (q_Q D cA ad K (va_A (q_cw cA ad 0 Wd) s.heap.size)) (as.map (q_cv ad)).toArray s 0 0 (va_A (q_cw cA ad 0 Wd) s.heap.size), D, cA, ad) as Wd K hs ⟨hx, hb, hown, fun w hw => hts w (List.mem_cons_of_mem _ hw), hK, fun q h => Or.inr h, Nat.le_refl _, Nat.le_refl _, Nat.zero_le _, Nat.zero_le _⟩ ⟨hr, hlocks, rfl, rfl, rfl, rfl⟩ s.heap [] _ ?_ (by rw [hlen]; exact hml.symm) hP hD va_S.rf
  rw [hlen]
  refine q_has_sub hl (fun q hq => ?_)
  unfold q_ent at hq
  rw [q_lvl_app, q_lvl_none, List.append_nil, q_lvl_args] at hq
  exact hq
theorem q_iret {x : q_X} {cc : ByteArray} {own : String} {fr lo pc : Nat} {lv : List (Option q_V)} {Wd : List q_E} {v : Int32} {K : Option q_V → List q_E → Prop} (ok : q_ok x cc own fr lo) (fn : q_fin x (some .int) K) (hd : decode cc pc = .ok (.ireturn, 1)) (h : K (some (.inl v)) Wd) : q_W x pc lv [.inl v] Wd := by
  obtain ⟨p, l, e, R, s, m, args, below, meth, c, A, H0, cells, slots, Q, D, cA, ad⟩ := x
  obtain ⟨hx, hb, hown, hts, hK, hA, hfr, hlo, hce, hsl⟩ := ok
  obtain ⟨hr, hlk, rfl, rfl, rfl, rfl⟩ := fn
  intro H locs ls hl hn hP hD hS
  exact W.iret hx hb hr (fun t ht hW => ⟨⟨some (.inl v), Wd, rfl, h, by rw [ht]; exact hP, va_K.moved hW.alike hK, hD⟩, hS.F ht⟩) hS.2.2 hd hlk
theorem q_zret {x : q_X} {cc : ByteArray} {own : String} {fr lo pc : Nat} {lv : List (Option q_V)} {Wd : List q_E} {v : Int32} {K : Option q_V → List q_E → Prop} (ok : q_ok x cc own fr lo) (fn : q_fin x (some .boolean) K) (hd : decode cc pc = .ok (.ireturn, 1)) (hv : v = 0 ∨ v = 1) (h : K (some (.inl v)) Wd) : q_W x pc lv [.inl v] Wd := by
  obtain ⟨p, l, e, R, s, m, args, below, meth, c, A, H0, cells, slots, Q, D, cA, ad⟩ := x
  obtain ⟨hx, hb, hown, hts, hK, hA, hfr, hlo, hce, hsl⟩ := ok
  obtain ⟨hr, hlk, rfl, rfl, rfl, rfl⟩ := fn
  intro H locs ls hl hn hP hD hS
  exact W.zret hx hb hr (by rcases hv with rfl | rfl <;> decide +kernel) (fun t ht hW => ⟨⟨some (.inl v), Wd, rfl, h, by rw [ht]; exact hP, va_K.moved hW.alike hK, hD⟩, hS.F ht⟩) hS.2.2 hd hlk
theorem q_lret {x : q_X} {cc : ByteArray} {own : String} {fr lo pc : Nat} {lv : List (Option q_V)} {Wd : List q_E} {v : Int64} {K : Option q_V → List q_E → Prop} (ok : q_ok x cc own fr lo) (fn : q_fin x (some .long) K) (hd : decode cc pc = .ok (.lreturn, 1)) (h : K (some (.inr (.inl v))) Wd) : q_W x pc lv [.inr (.inl v)] Wd := by
  obtain ⟨p, l, e, R, s, m, args, below, meth, c, A, H0, cells, slots, Q, D, cA, ad⟩ := x
  obtain ⟨hx, hb, hown, hts, hK, hA, hfr, hlo, hce, hsl⟩ := ok
  obtain ⟨hr, hlk, rfl, rfl, rfl, rfl⟩ := fn
  intro H locs ls hl hn hP hD hS
  exact W.lret hx hb hr (fun t ht hW => ⟨⟨some (.inr (.inl v)), Wd, rfl, h, by rw [ht]; exact hP, va_K.moved hW.alike hK, hD⟩, hS.F ht⟩) hS.2.2 hd hlk
theorem q_vret {x : q_X} {cc : ByteArray} {own : String} {fr lo pc : Nat} {lv : List (Option q_V)} {Wd : List q_E} {K : Option q_V → List q_E → Prop} (ok : q_ok x cc own fr lo) (fn : q_fin x none K) (hd : decode cc pc = .ok (.return_, 1)) (h : K none Wd) : q_W x pc lv [] Wd := by
  obtain ⟨p, l, e, R, s, m, args, below, meth, c, A, H0, cells, slots, Q, D, cA, ad⟩ := x
  obtain ⟨hx, hb, hown, hts, hK, hA, hfr, hlo, hce, hsl⟩ := ok
  obtain ⟨hr, hlk, rfl, rfl, rfl, rfl⟩ := fn
  intro H locs ls hl hn hP hD hS
  exact W.vret hx hb hr (fun t ht hW => ⟨⟨none, Wd, rfl, h, by rw [ht]; exact hP, va_K.moved hW.alike hK, hD⟩, hS.F ht⟩) hS.2.2 hd hlk
theorem q_blind {as : List Value} {D : va_G} {cA : Nat → ClassId} {ad : Nat → Nat} {sz : Nat} {Wd : List q_E} : FrameBlind (va_Pc as (q_B D cA ad sz Wd)) := fun a U g mk q => by
  obtain ⟨q0, q1, qP, qK, qD⟩ := q
  exact ⟨q0, q1, qP, va_K.moved (u := U) (U := U.calling g mk a) (Vm.Alike.refl U.vm) qK, qD⟩
theorem q_gws {y : MethodName} {b : ByteArray} {n : Nat} {ret : Option FieldType} (h : Cond.code y b n ret ∈ wsL_law) : GoodIn wsL_law (q_ws y b n ret) := fun w hw => by
  rcases List.mem_cons.mp hw with rfl | hw
  · exact ⟨h, Or.inl rfl⟩
  · exact ⟨hw, (q_goodL w hw).2⟩
/-- behind a call: the run's end, seen in the abstract world -/
theorem q_back {p : Program} {l : Launch} {e : Env} {R : Room} {s : State} {m : MethodId} {args : Array Value} {below : List Frame} {meth : Method} {c : Code} {A : Nat → Prop} {H0 : Heap} {cells slots : Nat} {Q : State → Prop} {D : va_G} {cA : Nat → ClassId} {ad : Nat → Nat} {H : Heap} {locs : List Loc} {ls : Array Slot} {pc : Nat} {lv : List (Option q_V)} {st : List q_V} {Wd : List q_E} {st0 : List Value} {a : Array Value}
    (hA : ∀ q : Nat, H0.size ≤ q → A q) (hl : lv_has ls lv.length (q_lvl ad 0 lv)) (hn : lv.length = c.maxLocals) (hD : va_D A (q_cw cA ad 0 Wd)) (hS : va_S A H0 H locs)
    (run : va_Run p l e R s m args below meth c H locs cells slots 0 0 (F0 m pc ls st0) (st.map (q_cv ad)) (q_Q D cA ad (fun r Wd2 => q_W (p, l, e, R, s, m, args, below, meth, c, A, H0, cells, slots, Q, D, cA, ad) (pc + 3) lv (r.toList ++ st) Wd2) (va_A (q_cw cA ad 0 Wd) H.size) a) (va_A (q_cw cA ad 0 Wd) H.size)) :
    W p l e R s m args below meth c H locs cells slots Q (F0 m pc ls st0) := by
  have hF : ∀ q, va_A (q_cw cA ad 0 Wd) H.size q → A q := by
    intro q h
    rcases h with ⟨k, ee, h⟩ | h
    · exact hD.2 k (q, ee) h
    · exact hA q (Nat.le_trans hS.1 h)
  intro T hT X
  obtain ⟨v, st₀, t, T', L, h0, X', hL, e1, e2, ⟨⟨r, Wd2, hv, hk, hP2, hK2, hD2⟩, hz, hkp⟩, stp⟩ := run T hT X
  cases hv
  rw [h0] at hz hkp
  have hstk : (r.map (q_cv ad)).toList ++ st.map (q_cv ad) = (r.toList ++ st).map (q_cv ad) := by cases r <;> rfl
  obtain ⟨t2, a1, b1⟩ := hk T'.heap (locs ++ L) ls hl hn (by rw [e1]; exact hP2) (hD2.weaken (fun k q _ h => hF q.1 h)) ⟨Nat.le_trans hS.1 (by rw [e1]; exact hz), fun q h1 h2 => by rw [e1, hkp q (Nat.lt_of_lt_of_le h1 hS.1) (fun z => h2 (hF q z))]; exact hS.2.1 q h1 h2, fun q hq => by
      rcases List.mem_append.mp hq with h | h
      · exact hS.2.2 q h
      · exact hF _ (hL q h)⟩ T' rfl X'
  rw [← hstk] at a1
  exact ⟨t2, stp t2 a1, b1⟩
theorem q_callV {x : q_X} {cc : ByteArray} {own : String} {fr lo pc : Nat} {lv : List (Option q_V)} {Wd : List q_E} {y : MethodName} {b : ByteArray} {n : Nat} {ret : Option FieldType} {fr2 lo2 : Nat} {spec : List q_V → List q_E → (Option q_V → List q_E → Prop) → Prop} {ix ci N k : Nat} {T : u_T} {fs : List q_V} (as : List q_V) {st : List q_V} (C : q_Ct y b n ret fr2 lo2 spec)
    (hw : Cond.methodLink own ix y ∈ wsL_law ∧ Cond.instanceMethod y ∈ wsL_law ∧ Cond.selects y.cls y y ∈ wsL_law ∧ Cond.initialized y.cls ∈ wsL_law ∧ Cond.code y b n ret ∈ wsL_law) (hdc : y.cls ≠ "java/lang/invoke/MethodHandle" ∧ y.cls ≠ "java/lang/invoke/VarHandle" ∧ (parseMethodDescriptor y.desc).map (fun d => d.parameters.length) = some as.length)
    (hcl : vwCl[ci]? = some (y.cls, T, N)) (ok : q_ok x cc own fr lo) (he : Wd[k]? = some (.inr (ci, fs))) (hR : fr2 + 1 ≤ fr ∧ 8 + (n + 11) + lo2 ≤ lo) (hst : (st.map (fun v => if q_nol (some v) then 1 else 2)).sum ≤ 8) (hle : (q_lv0 (q_r k :: as)).length ≤ n) (hd : decode cc pc = .ok (.invokevirtual ix, 3))
    (hsp : spec (q_r k :: as) Wd (fun r Wd2 => q_W x (pc + 3) lv (r.toList ++ st) Wd2)) : q_W x pc lv (as.reverse ++ q_r k :: st) Wd := by
  obtain ⟨p, l, e, R, s, m, args, below, meth, c, A, H0, cells, slots, Q, D, cA, ad⟩ := x
  obtain ⟨hx, hb, hown, hts, hK, hA, hfr, hlo, hce, hsl⟩ := ok
  intro H locs ls hl hn hP hD hS
  have hM := C l D cA ad H.size (q_r k :: as) Wd _ hle hsp
  have hcat : ((st.map (q_cv ad)).map fun v => v.category).sum ≤ 8 := by
    rw [List.map_map]
    refine Nat.le_trans (Nat.le_of_eq ?_) hst
    congr 1
    refine List.map_congr_left (fun v _ => ?_)
    rcases v with u | u | (_ | u) <;> simp [q_cv, Value.category, q_nol]
  have hdl : (parseMethodDescriptor y.desc).map (fun d => d.parameters.length) = some (as.map (q_cv ad)).length := by rw [List.length_map]; exact hdc.2.2
  have cw : CallW R s args own y.cls ix y b n ret (q_ws y b n ret) (q_rm fr2 lo2) 0 0 (as.map (q_cv ad)).length :=
    ⟨callB_of _ hts (q_gws hw.2.2.2.2) rfl rfl rfl (hts _ hw.2.2.2.1) (hts _ hw.1) ⟨hdc.1, hdc.2.1, hdl⟩ ⟨Nat.le_trans hR.1 hfr, Nat.le_trans hR.2 hlo⟩, hts _ hw.2.1, hts _ hw.2.2.1⟩
  refine q_back hA hl hn hD hS (va_runV (As := as.map (q_cv ad)) (b := ad k) (nL := c.maxLocals) (Ts := wsL_law) ⟨hx, hb, rfl, hown, hts⟩ hM cw ⟨q_blind, va_recv hK hP hcl (q_cw_get0 he), fun U hU hW => ⟨rfl, by rw [hU], by rw [hU]; exact hP, va_K.moved hW.alike hK, hD.weaken (fun _ _ _ _ => trivial)⟩⟩ rfl rfl (hl.1.trans hn) (by simp [List.map_reverse, q_cv]) (lv_room hcat) hd ⟨hce, hsl⟩)
theorem q_callS {x : q_X} {cc : ByteArray} {own : String} {fr lo pc : Nat} {lv : List (Option q_V)} {Wd : List q_E} {y : MethodName} {b : ByteArray} {n : Nat} {ret : Option FieldType} {fr2 lo2 : Nat} {spec : List q_V → List q_E → (Option q_V → List q_E → Prop) → Prop} {ix : Nat} (as : List q_V) {st : List q_V} (C : q_Ct y b n ret fr2 lo2 spec)
    (hw : Cond.methodLink own ix y ∈ wsL_law ∧ Cond.static y ∈ wsL_law ∧ Cond.initialized y.cls ∈ wsL_law ∧ Cond.code y b n ret ∈ wsL_law) (hdc : y.cls ≠ "java/lang/invoke/MethodHandle" ∧ y.cls ≠ "java/lang/invoke/VarHandle" ∧ (parseMethodDescriptor y.desc).map (fun d => d.parameters.length) = some as.length)
    (ok : q_ok x cc own fr lo) (hR : fr2 + 1 ≤ fr ∧ 8 + (n + 11) + lo2 ≤ lo) (hst : (st.map (fun v => if q_nol (some v) then 1 else 2)).sum ≤ 8) (hle : (q_lv0 as).length ≤ n) (hd : decode cc pc = .ok (.invokestatic ix, 3))
    (hsp : spec as Wd (fun r Wd2 => q_W x (pc + 3) lv (r.toList ++ st) Wd2)) : q_W x pc lv (as.reverse ++ st) Wd := by
  obtain ⟨p, l, e, R, s, m, args, below, meth, c, A, H0, cells, slots, Q, D, cA, ad⟩ := x
  obtain ⟨hx, hb, hown, hts, hK, hA, hfr, hlo, hce, hsl⟩ := ok
  intro H locs ls hl hn hP hD hS
  have hM := C l D cA ad H.size as Wd _ hle hsp
  have hcat : ((st.map (q_cv ad)).map fun v => v.category).sum ≤ 8 := by
    rw [List.map_map]
    refine Nat.le_trans (Nat.le_of_eq ?_) hst
    congr 1
    refine List.map_congr_left (fun v _ => ?_)
    rcases v with u | u | (_ | u) <;> simp [q_cv, Value.category, q_nol]
  have hdl : (parseMethodDescriptor y.desc).map (fun d => d.parameters.length) = some (as.map (q_cv ad)).length := by rw [List.length_map]; exact hdc.2.2
  have cw : CallB R s args own ix y b n ret (q_ws y b n ret) (q_rm fr2 lo2) 0 0 (as.map (q_cv ad)).length ∧ (Cond.static y).before args s = true :=
    ⟨callB_of _ hts (q_gws hw.2.2.2) rfl rfl rfl (hts _ hw.2.2.1) (hts _ hw.1) ⟨hdc.1, hdc.2.1, hdl⟩ ⟨Nat.le_trans hR.1 hfr, Nat.le_trans hR.2 hlo⟩, hts _ hw.2.1⟩
  refine q_back hA hl hn hD hS (va_runS (As := as.map (q_cv ad)) (nL := c.maxLocals) (Ts := wsL_law) ⟨hx, hb, rfl, hown, hts⟩ hM cw ⟨q_blind, fun U hU hW => ⟨rfl, by rw [hU], by rw [hU]; exact hP, va_K.moved hW.alike hK, hD.weaken (fun _ _ _ _ => trivial)⟩⟩ rfl rfl (hl.1.trans hn) (by simp [List.map_reverse]) (lv_room hcat) hd ⟨hce, hsl⟩)
end
